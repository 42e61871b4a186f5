theorem dX11_dish_0 : decode cX11_dish 0 = .ok (.aload_n 0, 1) := by decide +kernel
theorem dX11_dish_1 : decode cX11_dish 1 = .ok (.getfield 19, 3) := by decide +kernel
theorem dX11_dish_4 : decode cX11_dish 4 = .ok (.iload_n 1, 1) := by decide +kernel
theorem dX11_dish_5 : decode cX11_dish 5 = .ok (.invokevirtual 175, 3) := by decide +kernel
theorem dX11_dish_8 : decode cX11_dish 8 = .ok (.ifCond .ne 5, 3) := by decide +kernel
theorem dX11_dish_11 : decode cX11_dish 11 = .ok (.iconst (-1), 1) := by decide +kernel
theorem dX11_dish_12 : decode cX11_dish 12 = .ok (.ireturn, 1) := by decide +kernel
theorem dX11_dish_13 : decode cX11_dish 13 = .ok (.iload_n 2, 1) := by decide +kernel
theorem dX11_dish_14 : decode cX11_dish 14 = .ok (.tableswitch 62 0 2 #[26, 36, 46], 26) := by decide +kernel
theorem dX11_dish_40 : decode cX11_dish 40 = .ok (.aload_n 0, 1) := by decide +kernel
theorem dX11_dish_41 : decode cX11_dish 41 = .ok (.getfield 28, 3) := by decide +kernel
theorem dX11_dish_44 : decode cX11_dish 44 = .ok (.getfield 182, 3) := by decide +kernel
theorem dX11_dish_47 : decode cX11_dish 47 = .ok (.iload_n 1, 1) := by decide +kernel
theorem dX11_dish_48 : decode cX11_dish 48 = .ok (.iaload, 1) := by decide +kernel
theorem dX11_dish_49 : decode cX11_dish 49 = .ok (.ireturn, 1) := by decide +kernel
theorem dX11_dish_50 : decode cX11_dish 50 = .ok (.aload_n 0, 1) := by decide +kernel
theorem dX11_dish_51 : decode cX11_dish 51 = .ok (.getfield 19, 3) := by decide +kernel
theorem dX11_dish_54 : decode cX11_dish 54 = .ok (.getfield 185, 3) := by decide +kernel
theorem dX11_dish_57 : decode cX11_dish 57 = .ok (.iload_n 1, 1) := by decide +kernel
theorem dX11_dish_58 : decode cX11_dish 58 = .ok (.iaload, 1) := by decide +kernel
theorem dX11_dish_59 : decode cX11_dish 59 = .ok (.ireturn, 1) := by decide +kernel
theorem dX11_dish_60 : decode cX11_dish 60 = .ok (.aload_n 0, 1) := by decide +kernel
theorem dX11_dish_61 : decode cX11_dish 61 = .ok (.getfield 28, 3) := by decide +kernel
theorem dX11_dish_64 : decode cX11_dish 64 = .ok (.aload_n 0, 1) := by decide +kernel
theorem dX11_dish_65 : decode cX11_dish 65 = .ok (.getfield 19, 3) := by decide +kernel
theorem dX11_dish_68 : decode cX11_dish 68 = .ok (.invokevirtual 188, 3) := by decide +kernel
theorem dX11_dish_71 : decode cX11_dish 71 = .ok (.iload_n 1, 1) := by decide +kernel
theorem dX11_dish_72 : decode cX11_dish 72 = .ok (.invokevirtual 192, 3) := by decide +kernel
theorem dX11_dish_75 : decode cX11_dish 75 = .ok (.ireturn, 1) := by decide +kernel
theorem dX11_dish_76 : decode cX11_dish 76 = .ok (.iconst (-1), 1) := by decide +kernel
theorem dX11_dish_77 : decode cX11_dish 77 = .ok (.ireturn, 1) := by decide +kernel
theorem dX11_fault_0 : decode cX11_fault 0 = .ok (.aload_n 0, 1) := by decide +kernel
theorem dX11_fault_1 : decode cX11_fault 1 = .ok (.getfield 10, 3) := by decide +kernel
theorem dX11_fault_4 : decode cX11_fault 4 = .ok (.getfield 113, 3) := by decide +kernel
theorem dX11_fault_7 : decode cX11_fault 7 = .ok (.ireturn, 1) := by decide +kernel
theorem dX11_plate_0 : decode cX11_plate 0 = .ok (.aload_n 0, 1) := by decide +kernel
theorem dX11_plate_1 : decode cX11_plate 1 = .ok (.getfield 19, 3) := by decide +kernel
theorem dX11_plate_4 : decode cX11_plate 4 = .ok (.iload_n 1, 1) := by decide +kernel
theorem dX11_plate_5 : decode cX11_plate 5 = .ok (.invokevirtual 133, 3) := by decide +kernel
theorem dX11_plate_8 : decode cX11_plate 8 = .ok (.ifCond .eq 14, 3) := by decide +kernel
theorem dX11_plate_11 : decode cX11_plate 11 = .ok (.aload_n 0, 1) := by decide +kernel
theorem dX11_plate_12 : decode cX11_plate 12 = .ok (.getfield 19, 3) := by decide +kernel
theorem dX11_plate_15 : decode cX11_plate 15 = .ok (.iload_n 2, 1) := by decide +kernel
theorem dX11_plate_16 : decode cX11_plate 16 = .ok (.invokevirtual 175, 3) := by decide +kernel
theorem dX11_plate_19 : decode cX11_plate 19 = .ok (.ifCond .ne 5, 3) := by decide +kernel
theorem dX11_plate_22 : decode cX11_plate 22 = .ok (.iconst (-1), 1) := by decide +kernel
theorem dX11_plate_23 : decode cX11_plate 23 = .ok (.ireturn, 1) := by decide +kernel
theorem dX11_plate_24 : decode cX11_plate 24 = .ok (.aload_n 0, 1) := by decide +kernel
theorem dX11_plate_25 : decode cX11_plate 25 = .ok (.getfield 28, 3) := by decide +kernel
theorem dX11_plate_28 : decode cX11_plate 28 = .ok (.iload_n 1, 1) := by decide +kernel
theorem dX11_plate_29 : decode cX11_plate 29 = .ok (.iload_n 2, 1) := by decide +kernel
theorem dX11_plate_30 : decode cX11_plate 30 = .ok (.invokevirtual 178, 3) := by decide +kernel
theorem dX11_plate_33 : decode cX11_plate 33 = .ok (.ireturn, 1) := by decide +kernel
theorem dX11_table_0 : decode cX11_table 0 = .ok (.aload_n 0, 1) := by decide +kernel
theorem dX11_table_1 : decode cX11_table 1 = .ok (.getfield 45, 3) := by decide +kernel
theorem dX11_table_4 : decode cX11_table 4 = .ok (.aload_n 0, 1) := by decide +kernel
theorem dX11_table_5 : decode cX11_table 5 = .ok (.getfield 10, 3) := by decide +kernel
theorem dX11_table_8 : decode cX11_table 8 = .ok (.invokevirtual 109, 3) := by decide +kernel
theorem dX11_table_11 : decode cX11_table 11 = .ok (.istore_n 1, 1) := by decide +kernel
theorem dX11_table_12 : decode cX11_table 12 = .ok (.aload_n 0, 1) := by decide +kernel
theorem dX11_table_13 : decode cX11_table 13 = .ok (.getfield 10, 3) := by decide +kernel
theorem dX11_table_16 : decode cX11_table 16 = .ok (.iconst 0, 1) := by decide +kernel
theorem dX11_table_17 : decode cX11_table 17 = .ok (.putfield 102, 3) := by decide +kernel
theorem dX11_table_20 : decode cX11_table 20 = .ok (.aload_n 0, 1) := by decide +kernel
theorem dX11_table_21 : decode cX11_table 21 = .ok (.getfield 10, 3) := by decide +kernel
theorem dX11_table_24 : decode cX11_table 24 = .ok (.getfield 113, 3) := by decide +kernel
theorem dX11_table_27 : decode cX11_table 27 = .ok (.ifCond .eq 13, 3) := by decide +kernel
theorem dX11_table_30 : decode cX11_table 30 = .ok (.iconst (-1), 1) := by decide +kernel
theorem dX11_table_31 : decode cX11_table 31 = .ok (.aload_n 0, 1) := by decide +kernel
theorem dX11_table_32 : decode cX11_table 32 = .ok (.getfield 10, 3) := by decide +kernel
theorem dX11_table_35 : decode cX11_table 35 = .ok (.getfield 116, 3) := by decide +kernel
theorem dX11_table_38 : decode cX11_table 38 = .ok (.isub, 1) := by decide +kernel
theorem dX11_table_39 : decode cX11_table 39 = .ok (.ireturn, 1) := by decide +kernel
theorem dX11_table_40 : decode cX11_table 40 = .ok (.aload_n 0, 1) := by decide +kernel
theorem dX11_table_41 : decode cX11_table 41 = .ok (.getfield 19, 3) := by decide +kernel
theorem dX11_table_44 : decode cX11_table 44 = .ok (.aload_n 0, 1) := by decide +kernel
theorem dX11_table_45 : decode cX11_table 45 = .ok (.getfield 45, 3) := by decide +kernel
theorem dX11_table_48 : decode cX11_table 48 = .ok (.getfield 119, 3) := by decide +kernel
theorem dX11_table_51 : decode cX11_table 51 = .ok (.invokevirtual 120, 3) := by decide +kernel
theorem dX11_table_54 : decode cX11_table 54 = .ok (.aload_n 0, 1) := by decide +kernel
theorem dX11_table_55 : decode cX11_table 55 = .ok (.getfield 28, 3) := by decide +kernel
theorem dX11_table_58 : decode cX11_table 58 = .ok (.aload_n 0, 1) := by decide +kernel
theorem dX11_table_59 : decode cX11_table 59 = .ok (.getfield 45, 3) := by decide +kernel
theorem dX11_table_62 : decode cX11_table 62 = .ok (.getfield 123, 3) := by decide +kernel
theorem dX11_table_65 : decode cX11_table 65 = .ok (.invokevirtual 126, 3) := by decide +kernel
theorem dX11_table_68 : decode cX11_table 68 = .ok (.aload_n 0, 1) := by decide +kernel
theorem dX11_table_69 : decode cX11_table 69 = .ok (.getfield 59, 3) := by decide +kernel
theorem dX11_table_72 : decode cX11_table 72 = .ok (.invokevirtual 129, 3) := by decide +kernel
theorem dX11_table_75 : decode cX11_table 75 = .ok (.aload_n 0, 1) := by decide +kernel
theorem dX11_table_76 : decode cX11_table 76 = .ok (.getfield 38, 3) := by decide +kernel
theorem dX11_table_79 : decode cX11_table 79 = .ok (.invokevirtual 132, 3) := by decide +kernel
theorem dX11_table_82 : decode cX11_table 82 = .ok (.iload_n 1, 1) := by decide +kernel
theorem dX11_table_83 : decode cX11_table 83 = .ok (.ireturn, 1) := by decide +kernel
theorem dX1_addToPlate_0 : decode cX1_addToPlate 0 = .ok (.aload_n 0, 1) := by decide +kernel
theorem dX1_addToPlate_1 : decode cX1_addToPlate 1 = .ok (.getfield 15, 3) := by decide +kernel
theorem dX1_addToPlate_4 : decode cX1_addToPlate 4 = .ok (.iload_n 1, 1) := by decide +kernel
theorem dX1_addToPlate_5 : decode cX1_addToPlate 5 = .ok (.bipush 6, 2) := by decide +kernel
theorem dX1_addToPlate_7 : decode cX1_addToPlate 7 = .ok (.imul, 1) := by decide +kernel
theorem dX1_addToPlate_8 : decode cX1_addToPlate 8 = .ok (.iload_n 2, 1) := by decide +kernel
theorem dX1_addToPlate_9 : decode cX1_addToPlate 9 = .ok (.iadd, 1) := by decide +kernel
theorem dX1_addToPlate_10 : decode cX1_addToPlate 10 = .ok (.dup2, 1) := by decide +kernel
theorem dX1_addToPlate_11 : decode cX1_addToPlate 11 = .ok (.iaload, 1) := by decide +kernel
theorem dX1_addToPlate_12 : decode cX1_addToPlate 12 = .ok (.iload_n 3, 1) := by decide +kernel
theorem dX1_addToPlate_13 : decode cX1_addToPlate 13 = .ok (.iadd, 1) := by decide +kernel
theorem dX1_addToPlate_14 : decode cX1_addToPlate 14 = .ok (.iastore, 1) := by decide +kernel
theorem dX1_addToPlate_15 : decode cX1_addToPlate 15 = .ok (.aload_n 0, 1) := by decide +kernel
theorem dX1_addToPlate_16 : decode cX1_addToPlate 16 = .ok (.getfield 18, 3) := by decide +kernel
theorem dX1_addToPlate_19 : decode cX1_addToPlate 19 = .ok (.iload_n 1, 1) := by decide +kernel
theorem dX1_addToPlate_20 : decode cX1_addToPlate 20 = .ok (.dup2, 1) := by decide +kernel
theorem dX1_addToPlate_21 : decode cX1_addToPlate 21 = .ok (.iaload, 1) := by decide +kernel
theorem dX1_addToPlate_22 : decode cX1_addToPlate 22 = .ok (.iload_n 3, 1) := by decide +kernel
theorem dX1_addToPlate_23 : decode cX1_addToPlate 23 = .ok (.iadd, 1) := by decide +kernel
theorem dX1_addToPlate_24 : decode cX1_addToPlate 24 = .ok (.iastore, 1) := by decide +kernel
theorem dX1_addToPlate_25 : decode cX1_addToPlate 25 = .ok (.return_, 1) := by decide +kernel
theorem dX1_onPlate_0 : decode cX1_onPlate 0 = .ok (.aload_n 0, 1) := by decide +kernel
theorem dX1_onPlate_1 : decode cX1_onPlate 1 = .ok (.getfield 15, 3) := by decide +kernel
theorem dX1_onPlate_4 : decode cX1_onPlate 4 = .ok (.iload_n 1, 1) := by decide +kernel
theorem dX1_onPlate_5 : decode cX1_onPlate 5 = .ok (.bipush 6, 2) := by decide +kernel
theorem dX1_onPlate_7 : decode cX1_onPlate 7 = .ok (.imul, 1) := by decide +kernel
theorem dX1_onPlate_8 : decode cX1_onPlate 8 = .ok (.iload_n 2, 1) := by decide +kernel
theorem dX1_onPlate_9 : decode cX1_onPlate 9 = .ok (.iadd, 1) := by decide +kernel
theorem dX1_onPlate_10 : decode cX1_onPlate 10 = .ok (.iaload, 1) := by decide +kernel
theorem dX1_onPlate_11 : decode cX1_onPlate 11 = .ok (.ireturn, 1) := by decide +kernel
theorem dX1_onPlatesOf_0 : decode cX1_onPlatesOf 0 = .ok (.iconst 0, 1) := by decide +kernel
theorem dX1_onPlatesOf_1 : decode cX1_onPlatesOf 1 = .ok (.istore_n 3, 1) := by decide +kernel
theorem dX1_onPlatesOf_2 : decode cX1_onPlatesOf 2 = .ok (.iconst 0, 1) := by decide +kernel
theorem dX1_onPlatesOf_3 : decode cX1_onPlatesOf 3 = .ok (.istore 4, 2) := by decide +kernel
theorem dX1_onPlatesOf_5 : decode cX1_onPlatesOf 5 = .ok (.iload 4, 2) := by decide +kernel
theorem dX1_onPlatesOf_7 : decode cX1_onPlatesOf 7 = .ok (.aload_n 0, 1) := by decide +kernel
theorem dX1_onPlatesOf_8 : decode cX1_onPlatesOf 8 = .ok (.getfield 52, 3) := by decide +kernel
theorem dX1_onPlatesOf_11 : decode cX1_onPlatesOf 11 = .ok (.getfield 68, 3) := by decide +kernel
theorem dX1_onPlatesOf_14 : decode cX1_onPlatesOf 14 = .ok (.if_icmp .ge 28, 3) := by decide +kernel
theorem dX1_onPlatesOf_17 : decode cX1_onPlatesOf 17 = .ok (.iload_n 1, 1) := by decide +kernel
theorem dX1_onPlatesOf_18 : decode cX1_onPlatesOf 18 = .ok (.iload 4, 2) := by decide +kernel
theorem dX1_onPlatesOf_20 : decode cX1_onPlatesOf 20 = .ok (.ishr, 1) := by decide +kernel
theorem dX1_onPlatesOf_21 : decode cX1_onPlatesOf 21 = .ok (.iconst 1, 1) := by decide +kernel
theorem dX1_onPlatesOf_22 : decode cX1_onPlatesOf 22 = .ok (.iand, 1) := by decide +kernel
theorem dX1_onPlatesOf_23 : decode cX1_onPlatesOf 23 = .ok (.ifCond .eq 13, 3) := by decide +kernel
theorem dX1_onPlatesOf_26 : decode cX1_onPlatesOf 26 = .ok (.iload_n 3, 1) := by decide +kernel
theorem dX1_onPlatesOf_27 : decode cX1_onPlatesOf 27 = .ok (.aload_n 0, 1) := by decide +kernel
theorem dX1_onPlatesOf_28 : decode cX1_onPlatesOf 28 = .ok (.iload 4, 2) := by decide +kernel
theorem dX1_onPlatesOf_30 : decode cX1_onPlatesOf 30 = .ok (.iload_n 2, 1) := by decide +kernel
theorem dX1_onPlatesOf_31 : decode cX1_onPlatesOf 31 = .ok (.invokevirtual 71, 3) := by decide +kernel
theorem dX1_onPlatesOf_34 : decode cX1_onPlatesOf 34 = .ok (.iadd, 1) := by decide +kernel
theorem dX1_onPlatesOf_35 : decode cX1_onPlatesOf 35 = .ok (.istore_n 3, 1) := by decide +kernel
theorem dX1_onPlatesOf_36 : decode cX1_onPlatesOf 36 = .ok (.iinc 4 1, 3) := by decide +kernel
theorem dX1_onPlatesOf_39 : decode cX1_onPlatesOf 39 = .ok (.goto (-34), 3) := by decide +kernel
theorem dX1_onPlatesOf_42 : decode cX1_onPlatesOf 42 = .ok (.iload_n 3, 1) := by decide +kernel
theorem dX1_onPlatesOf_43 : decode cX1_onPlatesOf 43 = .ok (.ireturn, 1) := by decide +kernel
theorem dX8_everybody_0 : decode cX8_everybody 0 = .ok (.iconst 1, 1) := by decide +kernel
theorem dX8_everybody_1 : decode cX8_everybody 1 = .ok (.aload_n 0, 1) := by decide +kernel
theorem dX8_everybody_2 : decode cX8_everybody 2 = .ok (.getfield 28, 3) := by decide +kernel
theorem dX8_everybody_5 : decode cX8_everybody 5 = .ok (.ishl, 1) := by decide +kernel
theorem dX8_everybody_6 : decode cX8_everybody 6 = .ok (.iconst 1, 1) := by decide +kernel
theorem dX8_everybody_7 : decode cX8_everybody 7 = .ok (.isub, 1) := by decide +kernel
theorem dX8_everybody_8 : decode cX8_everybody 8 = .ok (.ireturn, 1) := by decide +kernel
theorem dX8_hasDish_0 : decode cX8_hasDish 0 = .ok (.iload_n 1, 1) := by decide +kernel
theorem dX8_hasDish_1 : decode cX8_hasDish 1 = .ok (.ifCond .lt 15, 3) := by decide +kernel
theorem dX8_hasDish_4 : decode cX8_hasDish 4 = .ok (.iload_n 1, 1) := by decide +kernel
theorem dX8_hasDish_5 : decode cX8_hasDish 5 = .ok (.aload_n 0, 1) := by decide +kernel
theorem dX8_hasDish_6 : decode cX8_hasDish 6 = .ok (.getfield 32, 3) := by decide +kernel
theorem dX8_hasDish_9 : decode cX8_hasDish 9 = .ok (.if_icmp .ge 7, 3) := by decide +kernel
theorem dX8_hasDish_12 : decode cX8_hasDish 12 = .ok (.iconst 1, 1) := by decide +kernel
theorem dX8_hasDish_13 : decode cX8_hasDish 13 = .ok (.goto 4, 3) := by decide +kernel
theorem dX8_hasDish_16 : decode cX8_hasDish 16 = .ok (.iconst 0, 1) := by decide +kernel
theorem dX8_hasDish_17 : decode cX8_hasDish 17 = .ok (.ireturn, 1) := by decide +kernel
theorem dX8_hasPerson_0 : decode cX8_hasPerson 0 = .ok (.iload_n 1, 1) := by decide +kernel
theorem dX8_hasPerson_1 : decode cX8_hasPerson 1 = .ok (.ifCond .lt 15, 3) := by decide +kernel
theorem dX8_hasPerson_4 : decode cX8_hasPerson 4 = .ok (.iload_n 1, 1) := by decide +kernel
theorem dX8_hasPerson_5 : decode cX8_hasPerson 5 = .ok (.aload_n 0, 1) := by decide +kernel
theorem dX8_hasPerson_6 : decode cX8_hasPerson 6 = .ok (.getfield 28, 3) := by decide +kernel
theorem dX8_hasPerson_9 : decode cX8_hasPerson 9 = .ok (.if_icmp .ge 7, 3) := by decide +kernel
theorem dX8_hasPerson_12 : decode cX8_hasPerson 12 = .ok (.iconst 1, 1) := by decide +kernel
theorem dX8_hasPerson_13 : decode cX8_hasPerson 13 = .ok (.goto 4, 3) := by decide +kernel
theorem dX8_hasPerson_16 : decode cX8_hasPerson 16 = .ok (.iconst 0, 1) := by decide +kernel
theorem dX8_hasPerson_17 : decode cX8_hasPerson 17 = .ok (.ireturn, 1) := by decide +kernel
theorem dX9_readFrom_0 : decode cX9_readFrom 0 = .ok (.aload_n 0, 1) := by decide +kernel
theorem dX9_readFrom_1 : decode cX9_readFrom 1 = .ok (.getfield 12, 3) := by decide +kernel
theorem dX9_readFrom_4 : decode cX9_readFrom 4 = .ok (.invokevirtual 34, 3) := by decide +kernel
theorem dX9_readFrom_7 : decode cX9_readFrom 7 = .ok (.aload_n 0, 1) := by decide +kernel
theorem dX9_readFrom_8 : decode cX9_readFrom 8 = .ok (.getfield 23, 3) := by decide +kernel
theorem dX9_readFrom_11 : decode cX9_readFrom 11 = .ok (.invokevirtual 37, 3) := by decide +kernel
theorem dX9_readFrom_14 : decode cX9_readFrom 14 = .ok (.aload_n 0, 1) := by decide +kernel
theorem dX9_readFrom_15 : decode cX9_readFrom 15 = .ok (.iconst 0, 1) := by decide +kernel
theorem dX9_readFrom_16 : decode cX9_readFrom 16 = .ok (.putfield 27, 3) := by decide +kernel
theorem dX9_readFrom_19 : decode cX9_readFrom 19 = .ok (.aload_n 0, 1) := by decide +kernel
theorem dX9_readFrom_20 : decode cX9_readFrom 20 = .ok (.iconst 0, 1) := by decide +kernel
theorem dX9_readFrom_21 : decode cX9_readFrom 21 = .ok (.putfield 31, 3) := by decide +kernel
theorem dX9_readFrom_24 : decode cX9_readFrom 24 = .ok (.aload_n 1, 1) := by decide +kernel
theorem dX9_readFrom_25 : decode cX9_readFrom 25 = .ok (.sipush 900, 3) := by decide +kernel
theorem dX9_readFrom_28 : decode cX9_readFrom 28 = .ok (.invokevirtual 38, 3) := by decide +kernel
theorem dX9_readFrom_31 : decode cX9_readFrom 31 = .ok (.iconst 0, 1) := by decide +kernel
theorem dX9_readFrom_32 : decode cX9_readFrom 32 = .ok (.istore_n 2, 1) := by decide +kernel
theorem dX9_readFrom_33 : decode cX9_readFrom 33 = .ok (.iload_n 2, 1) := by decide +kernel
theorem dX9_readFrom_34 : decode cX9_readFrom 34 = .ok (.sipush 900, 3) := by decide +kernel
theorem dX9_readFrom_37 : decode cX9_readFrom 37 = .ok (.if_icmp .ge 26, 3) := by decide +kernel
theorem dX9_readFrom_40 : decode cX9_readFrom 40 = .ok (.aload_n 1, 1) := by decide +kernel
theorem dX9_readFrom_41 : decode cX9_readFrom 41 = .ok (.getfield 44, 3) := by decide +kernel
theorem dX9_readFrom_44 : decode cX9_readFrom 44 = .ok (.bipush 102, 2) := by decide +kernel
theorem dX9_readFrom_46 : decode cX9_readFrom 46 = .ok (.if_icmp .eq 17, 3) := by decide +kernel
theorem dX9_readFrom_49 : decode cX9_readFrom 49 = .ok (.aload_n 0, 1) := by decide +kernel
theorem dX9_readFrom_50 : decode cX9_readFrom 50 = .ok (.aload_n 1, 1) := by decide +kernel
theorem dX9_readFrom_51 : decode cX9_readFrom 51 = .ok (.invokevirtual 48, 3) := by decide +kernel
theorem dX9_readFrom_54 : decode cX9_readFrom 54 = .ok (.ifCond .eq 9, 3) := by decide +kernel
theorem dX9_readFrom_57 : decode cX9_readFrom 57 = .ok (.iinc 2 1, 3) := by decide +kernel
theorem dX9_readFrom_60 : decode cX9_readFrom 60 = .ok (.goto (-27), 3) := by decide +kernel
theorem dX9_readFrom_63 : decode cX9_readFrom 63 = .ok (.iload_n 2, 1) := by decide +kernel
theorem dX9_readFrom_64 : decode cX9_readFrom 64 = .ok (.ireturn, 1) := by decide +kernel
theorem dX9_readLine_0 : decode cX9_readLine 0 = .ok (.aload_n 1, 1) := by decide +kernel
theorem dX9_readLine_1 : decode cX9_readLine 1 = .ok (.getfield 44, 3) := by decide +kernel
theorem dX9_readLine_4 : decode cX9_readLine 4 = .ok (.tableswitch 66 0 4 #[36, 42, 48, 54, 60], 36) := by decide +kernel
theorem dX9_readLine_40 : decode cX9_readLine 40 = .ok (.aload_n 0, 1) := by decide +kernel
theorem dX9_readLine_41 : decode cX9_readLine 41 = .ok (.aload_n 1, 1) := by decide +kernel
theorem dX9_readLine_42 : decode cX9_readLine 42 = .ok (.invokevirtual 52, 3) := by decide +kernel
theorem dX9_readLine_45 : decode cX9_readLine 45 = .ok (.ireturn, 1) := by decide +kernel
theorem dX9_readLine_46 : decode cX9_readLine 46 = .ok (.aload_n 0, 1) := by decide +kernel
theorem dX9_readLine_47 : decode cX9_readLine 47 = .ok (.aload_n 1, 1) := by decide +kernel
theorem dX9_readLine_48 : decode cX9_readLine 48 = .ok (.invokevirtual 55, 3) := by decide +kernel
theorem dX9_readLine_51 : decode cX9_readLine 51 = .ok (.ireturn, 1) := by decide +kernel
theorem dX9_readLine_52 : decode cX9_readLine 52 = .ok (.aload_n 0, 1) := by decide +kernel
theorem dX9_readLine_53 : decode cX9_readLine 53 = .ok (.aload_n 1, 1) := by decide +kernel
theorem dX9_readLine_54 : decode cX9_readLine 54 = .ok (.invokevirtual 58, 3) := by decide +kernel
theorem dX9_readLine_57 : decode cX9_readLine 57 = .ok (.ireturn, 1) := by decide +kernel
theorem dX9_readLine_58 : decode cX9_readLine 58 = .ok (.aload_n 0, 1) := by decide +kernel
theorem dX9_readLine_59 : decode cX9_readLine 59 = .ok (.aload_n 1, 1) := by decide +kernel
theorem dX9_readLine_60 : decode cX9_readLine 60 = .ok (.invokevirtual 61, 3) := by decide +kernel
theorem dX9_readLine_63 : decode cX9_readLine 63 = .ok (.ireturn, 1) := by decide +kernel
theorem dX9_readLine_64 : decode cX9_readLine 64 = .ok (.aload_n 0, 1) := by decide +kernel
theorem dX9_readLine_65 : decode cX9_readLine 65 = .ok (.aload_n 1, 1) := by decide +kernel
theorem dX9_readLine_66 : decode cX9_readLine 66 = .ok (.invokevirtual 64, 3) := by decide +kernel
theorem dX9_readLine_69 : decode cX9_readLine 69 = .ok (.ireturn, 1) := by decide +kernel
theorem dX9_readLine_70 : decode cX9_readLine 70 = .ok (.aload_n 1, 1) := by decide +kernel
theorem dX9_readLine_71 : decode cX9_readLine 71 = .ok (.iconst 1, 1) := by decide +kernel
theorem dX9_readLine_72 : decode cX9_readLine 72 = .ok (.invokevirtual 67, 3) := by decide +kernel
theorem dX9_readLine_75 : decode cX9_readLine 75 = .ok (.ireturn, 1) := by decide +kernel
theorem dX9_readPerson_0 : decode cX9_readPerson 0 = .ok (.aload_n 0, 1) := by decide +kernel
theorem dX9_readPerson_1 : decode cX9_readPerson 1 = .ok (.getfield 12, 3) := by decide +kernel
theorem dX9_readPerson_4 : decode cX9_readPerson 4 = .ok (.getfield 85, 3) := by decide +kernel
theorem dX9_readPerson_7 : decode cX9_readPerson 7 = .ok (.bipush 7, 2) := by decide +kernel
theorem dX9_readPerson_9 : decode cX9_readPerson 9 = .ok (.if_icmp .lt 9, 3) := by decide +kernel
theorem dX9_readPerson_12 : decode cX9_readPerson 12 = .ok (.aload_n 1, 1) := by decide +kernel
theorem dX9_readPerson_13 : decode cX9_readPerson 13 = .ok (.iconst 4, 1) := by decide +kernel
theorem dX9_readPerson_14 : decode cX9_readPerson 14 = .ok (.invokevirtual 67, 3) := by decide +kernel
theorem dX9_readPerson_17 : decode cX9_readPerson 17 = .ok (.ireturn, 1) := by decide +kernel
theorem dX9_readPerson_18 : decode cX9_readPerson 18 = .ok (.aload_n 1, 1) := by decide +kernel
theorem dX9_readPerson_19 : decode cX9_readPerson 19 = .ok (.invokevirtual 82, 3) := by decide +kernel
theorem dX9_readPerson_22 : decode cX9_readPerson 22 = .ok (.aload_n 1, 1) := by decide +kernel
theorem dX9_readPerson_23 : decode cX9_readPerson 23 = .ok (.getfield 71, 3) := by decide +kernel
theorem dX9_readPerson_26 : decode cX9_readPerson 26 = .ok (.lstore_n 2, 1) := by decide +kernel
theorem dX9_readPerson_27 : decode cX9_readPerson 27 = .ok (.aload_n 0, 1) := by decide +kernel
theorem dX9_readPerson_28 : decode cX9_readPerson 28 = .ok (.aload_n 1, 1) := by decide +kernel
theorem dX9_readPerson_29 : decode cX9_readPerson 29 = .ok (.invokevirtual 88, 3) := by decide +kernel
theorem dX9_readPerson_32 : decode cX9_readPerson 32 = .ok (.ifCond .ne 5, 3) := by decide +kernel
theorem dX9_readPerson_35 : decode cX9_readPerson 35 = .ok (.iconst 0, 1) := by decide +kernel
theorem dX9_readPerson_36 : decode cX9_readPerson 36 = .ok (.ireturn, 1) := by decide +kernel
theorem dX9_readPerson_37 : decode cX9_readPerson 37 = .ok (.aload_n 1, 1) := by decide +kernel
theorem dX9_readPerson_38 : decode cX9_readPerson 38 = .ok (.iconst 0, 1) := by decide +kernel
theorem dX9_readPerson_39 : decode cX9_readPerson 39 = .ok (.bipush 20, 2) := by decide +kernel
theorem dX9_readPerson_41 : decode cX9_readPerson 41 = .ok (.invokevirtual 91, 3) := by decide +kernel
theorem dX9_readPerson_44 : decode cX9_readPerson 44 = .ok (.istore 4, 2) := by decide +kernel
theorem dX9_readPerson_46 : decode cX9_readPerson 46 = .ok (.iload 4, 2) := by decide +kernel
theorem dX9_readPerson_48 : decode cX9_readPerson 48 = .ok (.iconst (-1), 1) := by decide +kernel
theorem dX9_readPerson_49 : decode cX9_readPerson 49 = .ok (.if_icmp .ne 5, 3) := by decide +kernel
theorem dX9_readPerson_52 : decode cX9_readPerson 52 = .ok (.iconst 0, 1) := by decide +kernel
theorem dX9_readPerson_53 : decode cX9_readPerson 53 = .ok (.ireturn, 1) := by decide +kernel
theorem dX9_readPerson_54 : decode cX9_readPerson 54 = .ok (.iconst (-1), 1) := by decide +kernel
theorem dX9_readPerson_55 : decode cX9_readPerson 55 = .ok (.istore 5, 2) := by decide +kernel
theorem dX9_readPerson_57 : decode cX9_readPerson 57 = .ok (.aload_n 1, 1) := by decide +kernel
theorem dX9_readPerson_58 : decode cX9_readPerson 58 = .ok (.getfield 44, 3) := by decide +kernel
theorem dX9_readPerson_61 : decode cX9_readPerson 61 = .ok (.iconst 5, 1) := by decide +kernel
theorem dX9_readPerson_62 : decode cX9_readPerson 62 = .ok (.if_icmp .ne 32, 3) := by decide +kernel
theorem dX9_readPerson_65 : decode cX9_readPerson 65 = .ok (.aload_n 1, 1) := by decide +kernel
theorem dX9_readPerson_66 : decode cX9_readPerson 66 = .ok (.invokevirtual 82, 3) := by decide +kernel
theorem dX9_readPerson_69 : decode cX9_readPerson 69 = .ok (.aload_n 1, 1) := by decide +kernel
theorem dX9_readPerson_70 : decode cX9_readPerson 70 = .ok (.aload_n 0, 1) := by decide +kernel
theorem dX9_readPerson_71 : decode cX9_readPerson 71 = .ok (.getfield 12, 3) := by decide +kernel
theorem dX9_readPerson_74 : decode cX9_readPerson 74 = .ok (.aload_n 1, 1) := by decide +kernel
theorem dX9_readPerson_75 : decode cX9_readPerson 75 = .ok (.getfield 71, 3) := by decide +kernel
theorem dX9_readPerson_78 : decode cX9_readPerson 78 = .ok (.invokevirtual 75, 3) := by decide +kernel
theorem dX9_readPerson_81 : decode cX9_readPerson 81 = .ok (.invokevirtual 95, 3) := by decide +kernel
theorem dX9_readPerson_84 : decode cX9_readPerson 84 = .ok (.istore 5, 2) := by decide +kernel
theorem dX9_readPerson_86 : decode cX9_readPerson 86 = .ok (.iload 5, 2) := by decide +kernel
theorem dX9_readPerson_88 : decode cX9_readPerson 88 = .ok (.iconst (-1), 1) := by decide +kernel
theorem dX9_readPerson_89 : decode cX9_readPerson 89 = .ok (.if_icmp .ne 5, 3) := by decide +kernel
theorem dX9_readPerson_92 : decode cX9_readPerson 92 = .ok (.iconst 0, 1) := by decide +kernel
theorem dX9_readPerson_93 : decode cX9_readPerson 93 = .ok (.ireturn, 1) := by decide +kernel
theorem dX9_readPerson_94 : decode cX9_readPerson 94 = .ok (.aload_n 0, 1) := by decide +kernel
theorem dX9_readPerson_95 : decode cX9_readPerson 95 = .ok (.getfield 12, 3) := by decide +kernel
theorem dX9_readPerson_98 : decode cX9_readPerson 98 = .ok (.getfield 99, 3) := by decide +kernel
theorem dX9_readPerson_101 : decode cX9_readPerson 101 = .ok (.aload_n 0, 1) := by decide +kernel
theorem dX9_readPerson_102 : decode cX9_readPerson 102 = .ok (.getfield 12, 3) := by decide +kernel
theorem dX9_readPerson_105 : decode cX9_readPerson 105 = .ok (.getfield 85, 3) := by decide +kernel
theorem dX9_readPerson_108 : decode cX9_readPerson 108 = .ok (.lload_n 2, 1) := by decide +kernel
theorem dX9_readPerson_109 : decode cX9_readPerson 109 = .ok (.lastore, 1) := by decide +kernel
theorem dX9_readPerson_110 : decode cX9_readPerson 110 = .ok (.aload_n 0, 1) := by decide +kernel
theorem dX9_readPerson_111 : decode cX9_readPerson 111 = .ok (.getfield 12, 3) := by decide +kernel
theorem dX9_readPerson_114 : decode cX9_readPerson 114 = .ok (.getfield 103, 3) := by decide +kernel
theorem dX9_readPerson_117 : decode cX9_readPerson 117 = .ok (.aload_n 0, 1) := by decide +kernel
theorem dX9_readPerson_118 : decode cX9_readPerson 118 = .ok (.getfield 12, 3) := by decide +kernel
theorem dX9_readPerson_121 : decode cX9_readPerson 121 = .ok (.getfield 85, 3) := by decide +kernel
theorem dX9_readPerson_124 : decode cX9_readPerson 124 = .ok (.iload 4, 2) := by decide +kernel
theorem dX9_readPerson_126 : decode cX9_readPerson 126 = .ok (.iastore, 1) := by decide +kernel
theorem dX9_readPerson_127 : decode cX9_readPerson 127 = .ok (.aload_n 0, 1) := by decide +kernel
theorem dX9_readPerson_128 : decode cX9_readPerson 128 = .ok (.getfield 12, 3) := by decide +kernel
theorem dX9_readPerson_131 : decode cX9_readPerson 131 = .ok (.getfield 107, 3) := by decide +kernel
theorem dX9_readPerson_134 : decode cX9_readPerson 134 = .ok (.aload_n 0, 1) := by decide +kernel
theorem dX9_readPerson_135 : decode cX9_readPerson 135 = .ok (.getfield 12, 3) := by decide +kernel
theorem dX9_readPerson_138 : decode cX9_readPerson 138 = .ok (.getfield 85, 3) := by decide +kernel
theorem dX9_readPerson_141 : decode cX9_readPerson 141 = .ok (.iload 5, 2) := by decide +kernel
theorem dX9_readPerson_143 : decode cX9_readPerson 143 = .ok (.iastore, 1) := by decide +kernel
theorem dX9_readPerson_144 : decode cX9_readPerson 144 = .ok (.aload_n 0, 1) := by decide +kernel
theorem dX9_readPerson_145 : decode cX9_readPerson 145 = .ok (.getfield 12, 3) := by decide +kernel
theorem dX9_readPerson_148 : decode cX9_readPerson 148 = .ok (.dup, 1) := by decide +kernel
theorem dX9_readPerson_149 : decode cX9_readPerson 149 = .ok (.getfield 85, 3) := by decide +kernel
theorem dX9_readPerson_152 : decode cX9_readPerson 152 = .ok (.iconst 1, 1) := by decide +kernel
theorem dX9_readPerson_153 : decode cX9_readPerson 153 = .ok (.iadd, 1) := by decide +kernel
theorem dX9_readPerson_154 : decode cX9_readPerson 154 = .ok (.putfield 85, 3) := by decide +kernel
theorem dX9_readPerson_157 : decode cX9_readPerson 157 = .ok (.aload_n 1, 1) := by decide +kernel
theorem dX9_readPerson_158 : decode cX9_readPerson 158 = .ok (.bipush 59, 2) := by decide +kernel
theorem dX9_readPerson_160 : decode cX9_readPerson 160 = .ok (.invokevirtual 110, 3) := by decide +kernel
theorem dX9_readPerson_163 : decode cX9_readPerson 163 = .ok (.ireturn, 1) := by decide +kernel
theorem dX9_readPlate_0 : decode cX9_readPlate 0 = .ok (.aload_n 1, 1) := by decide +kernel
theorem dX9_readPlate_1 : decode cX9_readPlate 1 = .ok (.invokevirtual 82, 3) := by decide +kernel
theorem dX9_readPlate_4 : decode cX9_readPlate 4 = .ok (.aload_n 1, 1) := by decide +kernel
theorem dX9_readPlate_5 : decode cX9_readPlate 5 = .ok (.aload_n 0, 1) := by decide +kernel
theorem dX9_readPlate_6 : decode cX9_readPlate 6 = .ok (.getfield 12, 3) := by decide +kernel
theorem dX9_readPlate_9 : decode cX9_readPlate 9 = .ok (.aload_n 1, 1) := by decide +kernel
theorem dX9_readPlate_10 : decode cX9_readPlate 10 = .ok (.getfield 71, 3) := by decide +kernel
theorem dX9_readPlate_13 : decode cX9_readPlate 13 = .ok (.invokevirtual 75, 3) := by decide +kernel
theorem dX9_readPlate_16 : decode cX9_readPlate 16 = .ok (.invokevirtual 95, 3) := by decide +kernel
theorem dX9_readPlate_19 : decode cX9_readPlate 19 = .ok (.istore_n 2, 1) := by decide +kernel
theorem dX9_readPlate_20 : decode cX9_readPlate 20 = .ok (.iload_n 2, 1) := by decide +kernel
theorem dX9_readPlate_21 : decode cX9_readPlate 21 = .ok (.iconst (-1), 1) := by decide +kernel
theorem dX9_readPlate_22 : decode cX9_readPlate 22 = .ok (.if_icmp .ne 5, 3) := by decide +kernel
theorem dX9_readPlate_25 : decode cX9_readPlate 25 = .ok (.iconst 0, 1) := by decide +kernel
theorem dX9_readPlate_26 : decode cX9_readPlate 26 = .ok (.ireturn, 1) := by decide +kernel
theorem dX9_readPlate_27 : decode cX9_readPlate 27 = .ok (.aload_n 0, 1) := by decide +kernel
theorem dX9_readPlate_28 : decode cX9_readPlate 28 = .ok (.getfield 12, 3) := by decide +kernel
theorem dX9_readPlate_31 : decode cX9_readPlate 31 = .ok (.aload_n 1, 1) := by decide +kernel
theorem dX9_readPlate_32 : decode cX9_readPlate 32 = .ok (.getfield 71, 3) := by decide +kernel
theorem dX9_readPlate_35 : decode cX9_readPlate 35 = .ok (.invokevirtual 79, 3) := by decide +kernel
theorem dX9_readPlate_38 : decode cX9_readPlate 38 = .ok (.istore_n 3, 1) := by decide +kernel
theorem dX9_readPlate_39 : decode cX9_readPlate 39 = .ok (.aload_n 1, 1) := by decide +kernel
theorem dX9_readPlate_40 : decode cX9_readPlate 40 = .ok (.getfield 44, 3) := by decide +kernel
theorem dX9_readPlate_43 : decode cX9_readPlate 43 = .ok (.bipush 100, 2) := by decide +kernel
theorem dX9_readPlate_45 : decode cX9_readPlate 45 = .ok (.if_icmp .ne 26, 3) := by decide +kernel
theorem dX9_readPlate_48 : decode cX9_readPlate 48 = .ok (.iload_n 3, 1) := by decide +kernel
theorem dX9_readPlate_49 : decode cX9_readPlate 49 = .ok (.iconst (-1), 1) := by decide +kernel
theorem dX9_readPlate_50 : decode cX9_readPlate 50 = .ok (.if_icmp .eq 21, 3) := by decide +kernel
theorem dX9_readPlate_53 : decode cX9_readPlate 53 = .ok (.aload_n 0, 1) := by decide +kernel
theorem dX9_readPlate_54 : decode cX9_readPlate 54 = .ok (.getfield 23, 3) := by decide +kernel
theorem dX9_readPlate_57 : decode cX9_readPlate 57 = .ok (.iload_n 2, 1) := by decide +kernel
theorem dX9_readPlate_58 : decode cX9_readPlate 58 = .ok (.iload_n 3, 1) := by decide +kernel
theorem dX9_readPlate_59 : decode cX9_readPlate 59 = .ok (.invokevirtual 125, 3) := by decide +kernel
theorem dX9_readPlate_62 : decode cX9_readPlate 62 = .ok (.ifCond .le 9, 3) := by decide +kernel
theorem dX9_readPlate_65 : decode cX9_readPlate 65 = .ok (.aload_n 1, 1) := by decide +kernel
theorem dX9_readPlate_66 : decode cX9_readPlate 66 = .ok (.iconst 3, 1) := by decide +kernel
theorem dX9_readPlate_67 : decode cX9_readPlate 67 = .ok (.invokevirtual 67, 3) := by decide +kernel
theorem dX9_readPlate_70 : decode cX9_readPlate 70 = .ok (.ireturn, 1) := by decide +kernel
theorem dX9_readPlate_71 : decode cX9_readPlate 71 = .ok (.aload_n 1, 1) := by decide +kernel
theorem dX9_readPlate_72 : decode cX9_readPlate 72 = .ok (.iload_n 3, 1) := by decide +kernel
theorem dX9_readPlate_73 : decode cX9_readPlate 73 = .ok (.invokevirtual 95, 3) := by decide +kernel
theorem dX9_readPlate_76 : decode cX9_readPlate 76 = .ok (.iconst (-1), 1) := by decide +kernel
theorem dX9_readPlate_77 : decode cX9_readPlate 77 = .ok (.if_icmp .ne 5, 3) := by decide +kernel
theorem dX9_readPlate_80 : decode cX9_readPlate 80 = .ok (.iconst 0, 1) := by decide +kernel
theorem dX9_readPlate_81 : decode cX9_readPlate 81 = .ok (.ireturn, 1) := by decide +kernel
theorem dX9_readPlate_82 : decode cX9_readPlate 82 = .ok (.aload_n 1, 1) := by decide +kernel
theorem dX9_readPlate_83 : decode cX9_readPlate 83 = .ok (.iconst 1, 1) := by decide +kernel
theorem dX9_readPlate_84 : decode cX9_readPlate 84 = .ok (.bipush 40, 2) := by decide +kernel
theorem dX9_readPlate_86 : decode cX9_readPlate 86 = .ok (.invokevirtual 91, 3) := by decide +kernel
theorem dX9_readPlate_89 : decode cX9_readPlate 89 = .ok (.istore 4, 2) := by decide +kernel
theorem dX9_readPlate_91 : decode cX9_readPlate 91 = .ok (.iload 4, 2) := by decide +kernel
theorem dX9_readPlate_93 : decode cX9_readPlate 93 = .ok (.iconst (-1), 1) := by decide +kernel
theorem dX9_readPlate_94 : decode cX9_readPlate 94 = .ok (.if_icmp .ne 5, 3) := by decide +kernel
theorem dX9_readPlate_97 : decode cX9_readPlate 97 = .ok (.iconst 0, 1) := by decide +kernel
theorem dX9_readPlate_98 : decode cX9_readPlate 98 = .ok (.ireturn, 1) := by decide +kernel
theorem dX9_readPlate_99 : decode cX9_readPlate 99 = .ok (.aload_n 0, 1) := by decide +kernel
theorem dX9_readPlate_100 : decode cX9_readPlate 100 = .ok (.getfield 23, 3) := by decide +kernel
theorem dX9_readPlate_103 : decode cX9_readPlate 103 = .ok (.iload_n 2, 1) := by decide +kernel
theorem dX9_readPlate_104 : decode cX9_readPlate 104 = .ok (.iload_n 3, 1) := by decide +kernel
theorem dX9_readPlate_105 : decode cX9_readPlate 105 = .ok (.iload 4, 2) := by decide +kernel
theorem dX9_readPlate_107 : decode cX9_readPlate 107 = .ok (.invokevirtual 128, 3) := by decide +kernel
theorem dX9_readPlate_110 : decode cX9_readPlate 110 = .ok (.aload_n 1, 1) := by decide +kernel
theorem dX9_readPlate_111 : decode cX9_readPlate 111 = .ok (.bipush 59, 2) := by decide +kernel
theorem dX9_readPlate_113 : decode cX9_readPlate 113 = .ok (.invokevirtual 110, 3) := by decide +kernel
theorem dX9_readPlate_116 : decode cX9_readPlate 116 = .ok (.ireturn, 1) := by decide +kernel
theorem rc_5 : Rg 5 5 5 := ⟨by decide, by decide⟩
theorem rc_20 : Rg 20 20 20 := ⟨by decide, by decide⟩
theorem rc_900 : Rg 900 900 900 := ⟨by decide, by decide⟩
set_option maxRecDepth 100000 in
set_option maxHeartbeats 8000000 in
theorem c_X9_readPerson {l : Launch} {D : va_G} {cy : Nat → ClassId} {L : List Nat} {κ ln : Nat → Nat} {R : Nat → Nat → Option Nat} {I : Nat → Nat → Int32} {J : Nat → Nat → Int64} {ow : Nat → Nat × Nat} (W9 : ∀ a ∈ L, Shp L κ ln R ow a) {x : Nat} (hLx : x ∈ L) (hkx : κ x = 9) {a0 : Nat} (hLa0 : a0 ∈ L) (hka0 : κ a0 = 10) (hU : Iv L κ R ow I) : CtI l yX9_readPerson cX9_readPerson 6 (some .boolean) { frames := 2, cells := 0, slots := 0, locals := 44 } D cy L κ ln R I J [.ref x, .ref a0] (fun r I2 J2 => Iv L κ R ow I2 ∧ Fq L κ ow [805, 1007, 1008, 1009, 1011, 1012, 58100, 58200] I I2 ∧ Fq L κ ow [1010, 58000] J J2 ∧ Rg 0 1 r) := by
  refine CtI.of (by decide +kernel) (Nat.le_of_ble_eq_true rfl) ?_
  intro p e s m below meth c B K
  have C := B.1
  have hF : Fq L κ ow [805, 1007, 1008, 1009, 1011, 1012, 58100, 58200] I I := fq_rf
  have hG : Fq L κ ow [1010, 58000] J J := fq_rf
  obtain ⟨b_478696, hb_478696, hb_478696L, hb_478696k⟩ := shp_o (W9 x hLx) hkx 0 8 rfl (by decide)
  obtain ⟨b_478697, hb_478697, hb_478697L, hb_478697k, hb_478697n, hb_478697o⟩ := shp_a (W9 b_478696 hb_478696L) hb_478696k 0 15 7 rfl (by decide)
  obtain ⟨b_478698, hb_478698, hb_478698L, hb_478698k, hb_478698n, hb_478698o⟩ := shp_a (W9 b_478696 hb_478696L) hb_478696k 1 14 7 rfl (by decide)
  obtain ⟨b_478699, hb_478699, hb_478699L, hb_478699k, hb_478699n, hb_478699o⟩ := shp_a (W9 b_478696 hb_478696L) hb_478696k 2 14 7 rfl (by decide)
  refine g_lo (is := [0, 1]) (lo2 := [(0, .ref x), (1, .ref a0)]) rfl ?_
  have j_94 : ∀ (I_478700 : Nat → Nat → Int32) (J_478701 : Nat → Nat → Int64) (hU_478702 : Iv L κ R ow I_478700) (hF_478703 : Fq L κ ow [805, 1007, 1008, 1009, 1011, 1012, 58100, 58200] I I_478700) (hG_478704 : Fq L κ ow [1010, 58000] J J_478701) (y_478705 : Int64) (v_478706 : Int32) (nv_478706_m1 : ¬ v_478706 = (-1)) (v_478707 : Int32) (rv_478707 : Rg (-1) 6 v_478707) (v_478708 : Int32) (rv_478708 : Rg 0 6 v_478708) (q_478709 : I_478700 b_478696 5 = v_478708), WG p l e { frames := 2, cells := 0, slots := 0, locals := 44 } s m ([.ref x, .ref a0] : List Value).toArray below meth c 6 0 0 (MQ below (Qi_ D cy L κ ln R (fun r I2 J2 => Iv L κ R ow I2 ∧ Fq L κ ow [805, 1007, 1008, 1009, 1011, 1012, 58100, 58200] I I2 ∧ Fq L κ ow [1010, 58000] J J2 ∧ Rg 0 1 r)) ([.ref x, .ref a0] : List Value).toArray s 0 0 (Al_ L)) D cy (Al_ L) s.heap L κ ln R I_478700 J_478701 94 [(0, .ref x), (1, .ref a0), (2, .long y_478705), (4, .int v_478706), (5, .int v_478707)] [] := by
    intro I_478700 J_478701 hU_478702 hF_478703 hG_478704 y_478705 v_478706 nv_478706_m1 v_478707 rv_478707 v_478708 rv_478708 q_478709
    refine g_aload_n C 0 dX9_readPerson_94 rfl rfl ?_
    refine g_getR C K hLx hkx f_9_12 hb_478696 dX9_readPerson_95 ?_
    refine g_getR C K hb_478696L hb_478696k f_9_99 hb_478697 dX9_readPerson_98 ?_
    refine g_aload_n C 0 dX9_readPerson_101 rfl rfl ?_
    refine g_getR C K hLx hkx f_9_12 hb_478696 dX9_readPerson_102 ?_
    refine g_getI C K hb_478696L hb_478696k f_9_85 (v := v_478708) q_478709 dX9_readPerson_105 ?_
    refine g_lload_n C 2 dX9_readPerson_108 rfl rfl ?_
    refine h_last C K hb_478697L hb_478697k (v_478708.toNatClampNeg) (rfl) (ix_0 rv_478708 (by decide)) (ix_lt rv_478708 (by decide) hb_478697n (by decide)) dX9_readPerson_109 (fun J_478710 hJ_478710 => ?_)
    have hG_478711 := fq_puta hG_478704 hJ_478710 (ro_a hb_478697k (by decide) hb_478697o hb_478696k rfl) (by decide) (by decide)
    refine g_aload_n C 0 dX9_readPerson_110 rfl rfl ?_
    refine g_getR C K hLx hkx f_9_12 hb_478696 dX9_readPerson_111 ?_
    refine g_getR C K hb_478696L hb_478696k f_9_103 hb_478698 dX9_readPerson_114 ?_
    refine g_aload_n C 0 dX9_readPerson_117 rfl rfl ?_
    refine g_getR C K hLx hkx f_9_12 hb_478696 dX9_readPerson_118 ?_
    refine g_getI C K hb_478696L hb_478696k f_9_85 (v := v_478708) q_478709 dX9_readPerson_121 ?_
    refine g_iload C 3 dX9_readPerson_124 rfl ?_
    refine h_iast C K hb_478698L hb_478698k (v_478708.toNatClampNeg) (rfl) (ix_0 rv_478708 (by decide)) (ix_lt rv_478708 (by decide) hb_478698n (by decide)) dX9_readPerson_126 (fun I_478712 hI_478712 => ?_)
    have hU_478713 := iv_put W9 hU_478702 hI_478712 (ro_a hb_478698k (by decide) hb_478698o hb_478696k rfl) (lo := (-2147483648)) (hi := 2147483647) (rfl) ((rg_all v_478706)) rfl
    have hF_478714 := fq_puta hF_478703 hI_478712 (ro_a hb_478698k (by decide) hb_478698o hb_478696k rfl) (by decide) (by decide)
    refine g_aload_n C 0 dX9_readPerson_127 rfl rfl ?_
    refine g_getR C K hLx hkx f_9_12 hb_478696 dX9_readPerson_128 ?_
    refine g_getR C K hb_478696L hb_478696k f_9_107 hb_478699 dX9_readPerson_131 ?_
    refine g_aload_n C 0 dX9_readPerson_134 rfl rfl ?_
    refine g_getR C K hLx hkx f_9_12 hb_478696 dX9_readPerson_135 ?_
    refine g_getI C K hb_478696L hb_478696k f_9_85 (v := v_478708) (kp_k (κ := κ) hI_478712 (by rw [hb_478696k, hb_478698k]; decide) q_478709) dX9_readPerson_138 ?_
    refine g_iload C 4 dX9_readPerson_141 rfl ?_
    refine h_iast C K hb_478699L hb_478699k (v_478708.toNatClampNeg) (rfl) (ix_0 rv_478708 (by decide)) (ix_lt rv_478708 (by decide) hb_478699n (by decide)) dX9_readPerson_143 (fun I_478715 hI_478715 => ?_)
    have hU_478716 := iv_put W9 hU_478713 hI_478715 (ro_a hb_478699k (by decide) hb_478699o hb_478696k rfl) (lo := (-1)) (hi := 6) (rfl) (rv_478707) rfl
    have hF_478717 := fq_puta hF_478714 hI_478715 (ro_a hb_478699k (by decide) hb_478699o hb_478696k rfl) (by decide) (by decide)
    refine g_aload_n C 0 dX9_readPerson_144 rfl rfl ?_
    refine g_getR C K hLx hkx f_9_12 hb_478696 dX9_readPerson_145 ?_
    refine g_dup C dX9_readPerson_148 rfl ?_
    refine g_getI C K hb_478696L hb_478696k f_9_85 (v := v_478708) (kp_k (κ := κ) hI_478715 (by rw [hb_478696k, hb_478699k]; decide) (kp_k (κ := κ) hI_478712 (by rw [hb_478696k, hb_478698k]; decide) q_478709)) dX9_readPerson_149 ?_
    refine g_iconst C (v := 1) dX9_readPerson_152 (by decide) ?_
    obtain ⟨x_478718, hx_478718, rx_478718, tx_478718⟩ := ex_add 1 7 rv_478708 rc_1 (by decide) (by decide) (by decide) (by decide)
    refine g_iadd C (v := x_478718) dX9_readPerson_153 hx_478718 ?_
    refine h_putI C K hb_478696L hb_478696k f_9_85 p_8_5 dX9_readPerson_154 (fun I_478719 hI_478719 => ?_)
    have hU_478720 := iv_put W9 hU_478716 hI_478719 (ro_o hb_478696k (by decide)) (lo := 0) (hi := 7) (rfl) (rg_w rx_478718 (by decide) (by decide)) rfl
    have hF_478721 := fq_puto hF_478717 hI_478719 hb_478696k (by decide) (by decide)
    refine g_aload_n C 1 dX9_readPerson_157 rfl rfl ?_
    refine g_bipush C (v := 59) dX9_readPerson_158 (by decide) ?_
    refine g_callVI C K (c_X10_take W9 hLa0 hka0 59 (rg_w rc_59 (by decide) (by decide)) hU_478720) hLa0 hka0 (by decide) rfl v_9_110 rfl ⟨rfl, rfl⟩ ⟨Nat.le_of_ble_eq_true rfl, Nat.le_of_ble_eq_true rfl⟩ (Nat.le_of_ble_eq_true rfl) ⟨Nat.le_of_ble_eq_true rfl, Nat.le_of_ble_eq_true rfl⟩ dX9_readPerson_160 rfl (st := []) (fun x_478722 I_478723 J_478724 h_478725 => ?_)
    obtain ⟨hUI_478723, hFI_478723, hGJ_478724, rx_478722⟩ := h_478725
    have hF_478726 := fq_tr hF_478721 hFI_478723 (by decide)
    have hG_478727 := fq_tr hG_478711 hGJ_478724 (by decide)
    exact g_zret (ty := .boolean) (r := x_478722) B K rfl (nar_z (rx_478722)) ⟨hUI_478723, hF_478726, hG_478727, rx_478722⟩ dX9_readPerson_163
  refine g_aload_n C 0 dX9_readPerson_0 rfl rfl ?_
  refine g_getR C K hLx hkx f_9_12 hb_478696 dX9_readPerson_1 ?_
  obtain ⟨x_478728, hx_478728, rx_478728⟩ := ex_get (I := I) (a := b_478696) (j := 5) (lo := 0) (hi := 7) hU.1 hb_478696L (ro_o hb_478696k (by decide)) rfl
  refine g_getI C K hb_478696L hb_478696k f_9_85 (v := x_478728) hx_478728 dX9_readPerson_4 ?_
  refine g_bipush C (v := 7) dX9_readPerson_7 (by decide) ?_
  refine g_icmp_lt C (tgt := 18) dX9_readPerson_9 (by decide) (fun h_478729 => ?_) (fun h_478729 => ?_)
  · skip
    have r_478730 := lt_l (hi := 6) (h_478729) rx_478728 rc_7 (by decide)
    refine g_aload_n C 1 dX9_readPerson_18 rfl rfl ?_
    refine g_callVV C K (c_X10_advance W9 hLa0 hka0   hU) hLa0 hka0 (by decide) rfl v_9_82 rfl ⟨rfl, rfl⟩ ⟨Nat.le_of_ble_eq_true rfl, Nat.le_of_ble_eq_true rfl⟩ (Nat.le_of_ble_eq_true rfl) ⟨Nat.le_of_ble_eq_true rfl, Nat.le_of_ble_eq_true rfl⟩ dX9_readPerson_19 rfl (st := []) (fun I_478732 J_478733 h_478734 => ?_)
    obtain ⟨hUI_478732, hFI_478732, hGJ_478733⟩ := h_478734
    have hF_478735 := fq_tr hF hFI_478732 (by decide)
    have hG_478736 := fq_tr hG hGJ_478733 (by decide)
    refine g_aload_n C 1 dX9_readPerson_22 rfl rfl ?_
    obtain ⟨y_478737, hy_478737⟩ : ∃ z, J_478733 a0 10 = z := ⟨_, rfl⟩
    refine g_getJ C K hLa0 hka0 f_9_71 (v := y_478737) hy_478737 dX9_readPerson_23 ?_
    refine g_lstore_n C dX9_readPerson_26 rfl (by decide) (lo2 := [(2, .long y_478737), (0, .ref x), (1, .ref a0)]) rfl ?_
    refine g_aload_n C 1 dX9_readPerson_27 rfl rfl ?_
    refine g_aload_n C 2 dX9_readPerson_28 rfl rfl ?_
    refine g_callVI C K (c_X9_newName W9 hLx hkx hLa0 hka0  hUI_478732) hLx hkx (by decide) rfl v_9_88 rfl ⟨rfl, rfl⟩ ⟨Nat.le_of_ble_eq_true rfl, Nat.le_of_ble_eq_true rfl⟩ (Nat.le_of_ble_eq_true rfl) ⟨Nat.le_of_ble_eq_true rfl, Nat.le_of_ble_eq_true rfl⟩ dX9_readPerson_29 rfl (st := []) (fun x_478738 I_478739 J_478740 h_478741 => ?_)
    obtain ⟨hUI_478739, hFI_478739, hGJ_478740, rx_478738⟩ := h_478741
    have hF_478742 := fq_tr hF_478735 hFI_478739 (by decide)
    have hG_478743 := fq_tr hG_478736 hGJ_478740 (by decide)
    refine g_if_ne C (tgt := 37) dX9_readPerson_32 (by decide) (fun h_478744 => ?_) (fun h_478744 => ?_)
    · skip
      have n_478745 : ¬ x_478738 = 0 := h_478744
      have r_478746 := ne_lo (lo := 1) n_478745 rx_478738 rc_0 rfl (by decide)
      refine g_aload_n C 2 dX9_readPerson_37 rfl rfl ?_
      refine g_iconst C (v := 0) dX9_readPerson_38 (by decide) ?_
      refine g_bipush C (v := 20) dX9_readPerson_39 (by decide) ?_
      refine g_callVI C K (c_X10_takeNumber W9 hLa0 hka0 0 20 (rg_w rc_0 (by decide) (by decide)) (rg_w rc_20 (by decide) (by decide)) hUI_478739) hLa0 hka0 (by decide) rfl v_9_91 rfl ⟨rfl, rfl⟩ ⟨Nat.le_of_ble_eq_true rfl, Nat.le_of_ble_eq_true rfl⟩ (Nat.le_of_ble_eq_true rfl) ⟨Nat.le_of_ble_eq_true rfl, Nat.le_of_ble_eq_true rfl⟩ dX9_readPerson_41 rfl (st := []) (fun x_478747 I_478748 J_478749 h_478750 => ?_)
      obtain ⟨hUI_478748, hFI_478748, hGJ_478749, rx_478747⟩ := h_478750
      have hF_478751 := fq_tr hF_478742 hFI_478748 (by decide)
      have hG_478752 := fq_tr hG_478743 hGJ_478749 (by decide)
      refine g_istore C dX9_readPerson_44 (by decide) (lo2 := [(4, .int x_478747), (2, .long y_478737), (0, .ref x), (1, .ref a0)]) rfl ?_
      refine g_iload C 0 dX9_readPerson_46 rfl ?_
      refine g_iconst C (v := (-1)) dX9_readPerson_48 (by decide) ?_
      refine g_icmp_ne C (tgt := 54) dX9_readPerson_49 (by decide) (fun h_478753 => ?_) (fun h_478753 => ?_)
      · skip
        have n_478754 : ¬ x_478747 = (-1) := h_478753
        refine g_iconst C (v := (-1)) dX9_readPerson_54 (by decide) ?_
        refine g_istore C dX9_readPerson_55 (by decide) (lo2 := [(5, .int (-1)), (4, .int x_478747), (2, .long y_478737), (0, .ref x), (1, .ref a0)]) rfl ?_
        refine g_aload_n C 4 dX9_readPerson_57 rfl rfl ?_
        obtain ⟨x_478755, hx_478755, rx_478755⟩ := ex_get (I := I_478748) (a := a0) (j := 8) (lo := (-2147483648)) (hi := 2147483647) hUI_478748.1 hLa0 (ro_o hka0 (by decide)) rfl
        refine g_getI C K hLa0 hka0 f_9_44 (v := x_478755) hx_478755 dX9_readPerson_58 ?_
        refine g_iconst C (v := 5) dX9_readPerson_61 (by decide) ?_
        refine g_icmp_ne C (tgt := 94) dX9_readPerson_62 (by decide) (fun h_478756 => ?_) (fun h_478756 => ?_)
        · skip
          have n_478757 : ¬ x_478755 = 5 := h_478756
          have q_478758 := (fq_at hFI_478748 hb_478696L hb_478696k (by decide) (by decide) (fq_at hFI_478739 hb_478696L hb_478696k (by decide) (by decide) (fq_at hFI_478732 hb_478696L hb_478696k (by decide) (by decide) hx_478728)))
          refine g_lo (is := [3, 4, 2, 1, 0]) (lo2 := [(0, .ref x), (1, .ref a0), (2, .long y_478737), (4, .int x_478747), (5, .int (-1))]) rfl ?_
          exact j_94 I_478748 J_478749 hUI_478748 hF_478751 hG_478752 y_478737 x_478747 (n_478754) (-1) (rg_w rc_m1 (by decide) (by decide)) x_478728 (r_478730) q_478758
        · skip
          have r_478759 := (⟨(eq_rg (h_478756) rc_5).1, (eq_rg (h_478756) rc_5).2⟩ : Rg 5 5 x_478755)
          refine g_aload_n C 4 dX9_readPerson_65 rfl rfl ?_
          refine g_callVV C K (c_X10_advance W9 hLa0 hka0   hUI_478748) hLa0 hka0 (by decide) rfl v_9_82 rfl ⟨rfl, rfl⟩ ⟨Nat.le_of_ble_eq_true rfl, Nat.le_of_ble_eq_true rfl⟩ (Nat.le_of_ble_eq_true rfl) ⟨Nat.le_of_ble_eq_true rfl, Nat.le_of_ble_eq_true rfl⟩ dX9_readPerson_66 rfl (st := []) (fun I_478761 J_478762 h_478763 => ?_)
          obtain ⟨hUI_478761, hFI_478761, hGJ_478762⟩ := h_478763
          have hF_478764 := fq_tr hF_478751 hFI_478761 (by decide)
          have hG_478765 := fq_tr hG_478752 hGJ_478762 (by decide)
          refine g_aload_n C 4 dX9_readPerson_69 rfl rfl ?_
          refine g_aload_n C 3 dX9_readPerson_70 rfl rfl ?_
          refine g_getR C K hLx hkx f_9_12 hb_478696 dX9_readPerson_71 ?_
          refine g_aload_n C 4 dX9_readPerson_74 rfl rfl ?_
          obtain ⟨y_478766, hy_478766⟩ : ∃ z, J_478762 a0 10 = z := ⟨_, rfl⟩
          refine g_getJ C K hLa0 hka0 f_9_71 (v := y_478766) hy_478766 dX9_readPerson_75 ?_
          refine g_callVI C K (c_X8_personNamed W9 hb_478696L hb_478696k y_478766  hUI_478761) hb_478696L hb_478696k (by decide) rfl v_9_75 rfl ⟨rfl, rfl⟩ ⟨Nat.le_of_ble_eq_true rfl, Nat.le_of_ble_eq_true rfl⟩ (Nat.le_of_ble_eq_true rfl) ⟨Nat.le_of_ble_eq_true rfl, Nat.le_of_ble_eq_true rfl⟩ dX9_readPerson_78 rfl (st := [.ref a0]) (fun x_478767 I_478768 J_478769 h_478770 => ?_)
          obtain ⟨rfl, rfl, rx_478767⟩ := h_478770
          refine g_callVI C K (c_X10_takeName W9 hLa0 hka0 x_478767 (rx_478767) hUI_478761) hLa0 hka0 (by decide) rfl v_9_95 rfl ⟨rfl, rfl⟩ ⟨Nat.le_of_ble_eq_true rfl, Nat.le_of_ble_eq_true rfl⟩ (Nat.le_of_ble_eq_true rfl) ⟨Nat.le_of_ble_eq_true rfl, Nat.le_of_ble_eq_true rfl⟩ dX9_readPerson_81 rfl (st := []) (fun x_478771 I_478772 J_478773 h_478774 => ?_)
          obtain ⟨hUI_478772, hFI_478772, hGJ_478773, rx_478771, ex_478771⟩ := h_478774
          have hF_478775 := fq_tr hF_478764 hFI_478772 (by decide)
          have hG_478776 := fq_tr hG_478765 hGJ_478773 (by decide)
          have r_478777 := rg_or ex_478771 (rx_478767) (by decide) (by decide)
          refine g_istore C dX9_readPerson_84 (by decide) (lo2 := [(5, .int x_478771), (4, .int x_478747), (2, .long y_478737), (0, .ref x), (1, .ref a0)]) rfl ?_
          refine g_iload C 0 dX9_readPerson_86 rfl ?_
          refine g_iconst C (v := (-1)) dX9_readPerson_88 (by decide) ?_
          refine g_icmp_ne C (tgt := 94) dX9_readPerson_89 (by decide) (fun h_478778 => ?_) (fun h_478778 => ?_)
          · skip
            have n_478779 : ¬ x_478771 = (-1) := h_478778
            have r_478780 := ne_lo (lo := 0) n_478779 r_478777 rc_m1 rfl (by decide)
            have r_478781 := eq_rg (Eq.symm (Or.resolve_left ex_478771 (rg_nek r_478780 rc_m1 (by decide)))) r_478780
            have q_478782 := (fq_at hFI_478772 hb_478696L hb_478696k (by decide) (by decide) (fq_at hFI_478761 hb_478696L hb_478696k (by decide) (by decide) (fq_at hFI_478748 hb_478696L hb_478696k (by decide) (by decide) (fq_at hFI_478739 hb_478696L hb_478696k (by decide) (by decide) (fq_at hFI_478732 hb_478696L hb_478696k (by decide) (by decide) hx_478728)))))
            refine g_lo (is := [3, 4, 2, 1, 0]) (lo2 := [(0, .ref x), (1, .ref a0), (2, .long y_478737), (4, .int x_478747), (5, .int x_478771)]) rfl ?_
            exact j_94 I_478772 J_478773 hUI_478772 hF_478775 hG_478776 y_478737 x_478747 (n_478754) x_478771 (rg_w r_478780 (by decide) (by decide)) x_478728 (r_478730) q_478782
          · skip
            have r_478783 := (⟨(r_478777).1, (eq_rg (h_478778) rc_m1).2⟩ : Rg (-1) (-1) x_478771)
            refine g_iconst C (v := 0) dX9_readPerson_92 (by decide) ?_
            exact g_zret (ty := .boolean) (r := 0) B K rfl (rfl) ⟨hUI_478772, hF_478775, hG_478776, rg_w rc_0 (by decide) (by decide)⟩ dX9_readPerson_93
      · skip
        have r_478784 := (⟨(eq_rg (h_478753) rc_m1).1, (eq_rg (h_478753) rc_m1).2⟩ : Rg (-1) (-1) x_478747)
        refine g_iconst C (v := 0) dX9_readPerson_52 (by decide) ?_
        exact g_zret (ty := .boolean) (r := 0) B K rfl (rfl) ⟨hUI_478748, hF_478751, hG_478752, rg_w rc_0 (by decide) (by decide)⟩ dX9_readPerson_53
    · skip
      have r_478785 := (⟨(rx_478738).1, (eq_rg (h_478744) rc_0).2⟩ : Rg 0 0 x_478738)
      refine g_iconst C (v := 0) dX9_readPerson_35 (by decide) ?_
      exact g_zret (ty := .boolean) (r := 0) B K rfl (rfl) ⟨hUI_478739, hF_478742, hG_478743, rg_w rc_0 (by decide) (by decide)⟩ dX9_readPerson_36
  · skip
    have r_478786 := le_r (nlt h_478729) rc_7 rx_478728
    refine g_aload_n C 1 dX9_readPerson_12 rfl rfl ?_
    refine g_iconst C (v := 4) dX9_readPerson_13 (by decide) ?_
    refine g_callVI C K (c_X10_fail W9 hLa0 hka0 4 (rg_w rc_4 (by decide) (by decide)) hU) hLa0 hka0 (by decide) rfl v_9_67 rfl ⟨rfl, rfl⟩ ⟨Nat.le_of_ble_eq_true rfl, Nat.le_of_ble_eq_true rfl⟩ (Nat.le_of_ble_eq_true rfl) ⟨Nat.le_of_ble_eq_true rfl, Nat.le_of_ble_eq_true rfl⟩ dX9_readPerson_14 rfl (st := []) (fun x_478787 I_478788 J_478789 h_478790 => ?_)
    obtain ⟨hUI_478788, hFI_478788, hGJ_478789, rx_478787⟩ := h_478790
    have hF_478791 := fq_tr hF hFI_478788 (by decide)
    have hG_478792 := fq_tr hG hGJ_478789 (by decide)
    exact g_zret (ty := .boolean) (r := x_478787) B K rfl (nar_z (rg_w rx_478787 (by decide) (by decide))) ⟨hUI_478788, hF_478791, hG_478792, rg_w rx_478787 (by decide) (by decide)⟩ dX9_readPerson_17
set_option maxRecDepth 100000 in
set_option maxHeartbeats 8000000 in
theorem c_X1_addToPlate {l : Launch} {D : va_G} {cy : Nat → ClassId} {L : List Nat} {κ ln : Nat → Nat} {R : Nat → Nat → Option Nat} {I : Nat → Nat → Int32} {J : Nat → Nat → Int64} {ow : Nat → Nat × Nat} (W9 : ∀ a ∈ L, Shp L κ ln R ow a) {x : Nat} (hLx : x ∈ L) (hkx : κ x = 1) (a0 : Int32) (a1 : Int32) (a2 : Int32) (ra0 : Rg 0 6 a0) (ra1 : Rg 0 5 a1) (hU : Iv L κ R ow I) : CtV l yX1_addToPlate cX1_addToPlate 4 none { frames := 0, cells := 0, slots := 0, locals := 0 } D cy L κ ln R I J [.ref x, .int a0, .int a1, .int a2] (fun I2 J2 => Iv L κ R ow I2 ∧ Fq L κ ow [16200, 16300] I I2 ∧ Fq L κ ow [] J J2) := by
  refine CtV.of (by decide +kernel) (Nat.le_of_ble_eq_true rfl) ?_
  intro p e s m below meth c B K
  have C := B.1
  have hF : Fq L κ ow [16200, 16300] I I := fq_rf
  have hG : Fq L κ ow [] J J := fq_rf
  obtain ⟨b_478821, hb_478821, hb_478821L, hb_478821k, hb_478821n, hb_478821o⟩ := shp_a (W9 x hLx) hkx 3 14 7 rfl (by decide)
  obtain ⟨b_478822, hb_478822, hb_478822L, hb_478822k, hb_478822n, hb_478822o⟩ := shp_a (W9 x hLx) hkx 2 14 42 rfl (by decide)
  refine g_lo (is := [0, 1, 2, 3]) (lo2 := [(0, .ref x), (1, .int a0), (2, .int a1), (3, .int a2)]) rfl ?_
  refine g_aload_n C 0 dX1_addToPlate_0 rfl rfl ?_
  refine g_getR C K hLx hkx f_1_15 hb_478822 dX1_addToPlate_1 ?_
  refine g_iload_n C 1 dX1_addToPlate_4 rfl rfl ?_
  refine g_bipush C (v := 6) dX1_addToPlate_5 (by decide) ?_
  obtain ⟨x_478823, hx_478823, rx_478823⟩ := ex_mulk 0 36 ra0 rc_6 (by decide) (by decide) (by decide) (by decide) (by decide)
  refine g_imul C (v := x_478823) dX1_addToPlate_7 hx_478823 ?_
  refine g_iload_n C 2 dX1_addToPlate_8 rfl rfl ?_
  obtain ⟨x_478824, hx_478824, rx_478824, tx_478824⟩ := ex_add 0 41 rx_478823 ra1 (by decide) (by decide) (by decide) (by decide)
  refine g_iadd C (v := x_478824) dX1_addToPlate_9 hx_478824 ?_
  refine g_dup2 C dX1_addToPlate_10 rfl rfl ?_
  obtain ⟨x_478825, hx_478825, rx_478825⟩ := ex_get (I := I) (a := b_478822) (j := x_478824.toNatClampNeg) (lo := (-2147483648)) (hi := 2147483647) hU.1 hb_478822L (ro_a hb_478822k (by decide) hb_478822o hkx rfl) (rfl)
  refine h_iald C K hb_478822L hb_478822k (v := x_478825) (x_478824.toNatClampNeg) (rfl) (ix_0 rx_478824 (by decide)) (ix_lt rx_478824 (by decide) hb_478822n (by decide)) hx_478825 dX1_addToPlate_11 ?_
  refine g_iload_n C 3 dX1_addToPlate_12 rfl rfl ?_
  obtain ⟨x_478826, hx_478826, rx_478826⟩ := ex_any (z0 := x_478825 + a2)
  refine g_iadd C (v := x_478826) dX1_addToPlate_13 hx_478826 ?_
  refine h_iast C K hb_478822L hb_478822k (x_478824.toNatClampNeg) (rfl) (ix_0 rx_478824 (by decide)) (ix_lt rx_478824 (by decide) hb_478822n (by decide)) dX1_addToPlate_14 (fun I_478827 hI_478827 => ?_)
  have hU_478828 := iv_put W9 hU hI_478827 (ro_a hb_478822k (by decide) hb_478822o hkx rfl) (lo := (-2147483648)) (hi := 2147483647) (rfl) (rx_478826) rfl
  have hF_478829 := fq_puta hF hI_478827 (ro_a hb_478822k (by decide) hb_478822o hkx rfl) (by decide) (by decide)
  refine g_aload_n C 0 dX1_addToPlate_15 rfl rfl ?_
  refine g_getR C K hLx hkx f_1_18 hb_478821 dX1_addToPlate_16 ?_
  refine g_iload_n C 1 dX1_addToPlate_19 rfl rfl ?_
  refine g_dup2 C dX1_addToPlate_20 rfl rfl ?_
  obtain ⟨x_478830, hx_478830, rx_478830⟩ := ex_get (I := I_478827) (a := b_478821) (j := a0.toNatClampNeg) (lo := (-2147483648)) (hi := 2147483647) hU_478828.1 hb_478821L (ro_a hb_478821k (by decide) hb_478821o hkx rfl) (rfl)
  refine h_iald C K hb_478821L hb_478821k (v := x_478830) (a0.toNatClampNeg) (rfl) (ix_0 ra0 (by decide)) (ix_lt ra0 (by decide) hb_478821n (by decide)) hx_478830 dX1_addToPlate_21 ?_
  refine g_iload_n C 3 dX1_addToPlate_22 rfl rfl ?_
  obtain ⟨x_478831, hx_478831, rx_478831⟩ := ex_any (z0 := x_478830 + a2)
  refine g_iadd C (v := x_478831) dX1_addToPlate_23 hx_478831 ?_
  refine h_iast C K hb_478821L hb_478821k (a0.toNatClampNeg) (rfl) (ix_0 ra0 (by decide)) (ix_lt ra0 (by decide) hb_478821n (by decide)) dX1_addToPlate_24 (fun I_478832 hI_478832 => ?_)
  have hU_478833 := iv_put W9 hU_478828 hI_478832 (ro_a hb_478821k (by decide) hb_478821o hkx rfl) (lo := (-2147483648)) (hi := 2147483647) (rfl) (rx_478831) rfl
  have hF_478834 := fq_puta hF_478829 hI_478832 (ro_a hb_478821k (by decide) hb_478821o hkx rfl) (by decide) (by decide)
  exact g_vret B K rfl ⟨hU_478833, hF_478834, hG⟩ dX1_addToPlate_25
set_option maxRecDepth 100000 in
set_option maxHeartbeats 8000000 in
theorem c_X1_onPlate {l : Launch} {D : va_G} {cy : Nat → ClassId} {L : List Nat} {κ ln : Nat → Nat} {R : Nat → Nat → Option Nat} {I : Nat → Nat → Int32} {J : Nat → Nat → Int64} {ow : Nat → Nat × Nat} (W9 : ∀ a ∈ L, Shp L κ ln R ow a) {x : Nat} (hLx : x ∈ L) (hkx : κ x = 1) (a0 : Int32) (a1 : Int32) (ra0 : Rg 0 6 a0) (ra1 : Rg 0 5 a1) (hU : Iv L κ R ow I) : CtI l yX1_onPlate cX1_onPlate 3 (some .int) { frames := 0, cells := 0, slots := 0, locals := 0 } D cy L κ ln R I J [.ref x, .int a0, .int a1] (fun r I2 J2 => I = I2 ∧ J = J2 ∧ Rg (-2147483648) 2147483647 r) := by
  refine CtI.of (by decide +kernel) (Nat.le_of_ble_eq_true rfl) ?_
  intro p e s m below meth c B K
  have C := B.1
  obtain ⟨b_478843, hb_478843, hb_478843L, hb_478843k, hb_478843n, hb_478843o⟩ := shp_a (W9 x hLx) hkx 2 14 42 rfl (by decide)
  refine g_lo (is := [0, 1, 2]) (lo2 := [(0, .ref x), (1, .int a0), (2, .int a1)]) rfl ?_
  refine g_aload_n C 0 dX1_onPlate_0 rfl rfl ?_
  refine g_getR C K hLx hkx f_1_15 hb_478843 dX1_onPlate_1 ?_
  refine g_iload_n C 1 dX1_onPlate_4 rfl rfl ?_
  refine g_bipush C (v := 6) dX1_onPlate_5 (by decide) ?_
  obtain ⟨x_478844, hx_478844, rx_478844⟩ := ex_mulk 0 36 ra0 rc_6 (by decide) (by decide) (by decide) (by decide) (by decide)
  refine g_imul C (v := x_478844) dX1_onPlate_7 hx_478844 ?_
  refine g_iload_n C 2 dX1_onPlate_8 rfl rfl ?_
  obtain ⟨x_478845, hx_478845, rx_478845, tx_478845⟩ := ex_add 0 41 rx_478844 ra1 (by decide) (by decide) (by decide) (by decide)
  refine g_iadd C (v := x_478845) dX1_onPlate_9 hx_478845 ?_
  obtain ⟨x_478846, hx_478846, rx_478846⟩ := ex_get (I := I) (a := b_478843) (j := x_478845.toNatClampNeg) (lo := (-2147483648)) (hi := 2147483647) hU.1 hb_478843L (ro_a hb_478843k (by decide) hb_478843o hkx rfl) (rfl)
  refine h_iald C K hb_478843L hb_478843k (v := x_478846) (x_478845.toNatClampNeg) (rfl) (ix_0 rx_478845 (by decide)) (ix_lt rx_478845 (by decide) hb_478843n (by decide)) hx_478846 dX1_onPlate_10 ?_
  exact g_zret (ty := .int) (r := x_478846) B K rfl (rfl) ⟨rfl, rfl, rx_478846⟩ dX1_onPlate_11
set_option maxRecDepth 100000 in
set_option maxHeartbeats 8000000 in
theorem c_X9_readPlate {l : Launch} {D : va_G} {cy : Nat → ClassId} {L : List Nat} {κ ln : Nat → Nat} {R : Nat → Nat → Option Nat} {I : Nat → Nat → Int32} {J : Nat → Nat → Int64} {ow : Nat → Nat × Nat} (W9 : ∀ a ∈ L, Shp L κ ln R ow a) {x : Nat} (hLx : x ∈ L) (hkx : κ x = 9) {a0 : Nat} (hLa0 : a0 ∈ L) (hka0 : κ a0 = 10) (hU : Iv L κ R ow I) : CtI l yX9_readPlate cX9_readPlate 5 (some .boolean) { frames := 2, cells := 0, slots := 0, locals := 44 } D cy L κ ln R I J [.ref x, .ref a0] (fun r I2 J2 => Iv L κ R ow I2 ∧ Fq L κ ow [1007, 1008, 1009, 1011, 1012, 16200, 16300] I I2 ∧ Fq L κ ow [1010] J J2 ∧ Rg 0 1 r) := by
  refine CtI.of (by decide +kernel) (Nat.le_of_ble_eq_true rfl) ?_
  intro p e s m below meth c B K
  have C := B.1
  have hF : Fq L κ ow [1007, 1008, 1009, 1011, 1012, 16200, 16300] I I := fq_rf
  have hG : Fq L κ ow [1010] J J := fq_rf
  obtain ⟨b_479017, hb_479017, hb_479017L, hb_479017k⟩ := shp_o (W9 x hLx) hkx 0 8 rfl (by decide)
  obtain ⟨b_479018, hb_479018, hb_479018L, hb_479018k⟩ := shp_o (W9 x hLx) hkx 1 1 rfl (by decide)
  refine g_lo (is := [0, 1]) (lo2 := [(0, .ref x), (1, .ref a0)]) rfl ?_
  have j_71 : ∀ (I_479019 : Nat → Nat → Int32) (J_479020 : Nat → Nat → Int64) (hU_479021 : Iv L κ R ow I_479019) (hF_479022 : Fq L κ ow [1007, 1008, 1009, 1011, 1012, 16200, 16300] I I_479019) (hG_479023 : Fq L κ ow [1010] J J_479020) (v_479024 : Int32) (rv_479024 : Rg 0 6 v_479024) (nv_479024_m1 : ¬ v_479024 = (-1)) (v_479025 : Int32) (rv_479025 : Rg (-1) 5 v_479025) (v_479026 : Int32) (q_479027 : I_479019 a0 8 = v_479026), WG p l e { frames := 2, cells := 0, slots := 0, locals := 44 } s m ([.ref x, .ref a0] : List Value).toArray below meth c 5 0 0 (MQ below (Qi_ D cy L κ ln R (fun r I2 J2 => Iv L κ R ow I2 ∧ Fq L κ ow [1007, 1008, 1009, 1011, 1012, 16200, 16300] I I2 ∧ Fq L κ ow [1010] J J2 ∧ Rg 0 1 r)) ([.ref x, .ref a0] : List Value).toArray s 0 0 (Al_ L)) D cy (Al_ L) s.heap L κ ln R I_479019 J_479020 71 [(0, .ref x), (1, .ref a0), (2, .int v_479024), (3, .int v_479025)] [] := by
    intro I_479019 J_479020 hU_479021 hF_479022 hG_479023 v_479024 rv_479024 nv_479024_m1 v_479025 rv_479025 v_479026 q_479027
    refine g_aload_n C 1 dX9_readPlate_71 rfl rfl ?_
    refine g_iload_n C 3 dX9_readPlate_72 rfl rfl ?_
    refine g_callVI C K (c_X10_takeName W9 hLa0 hka0 v_479025 (rg_w rv_479025 (by decide) (by decide)) hU_479021) hLa0 hka0 (by decide) rfl v_9_95 rfl ⟨rfl, rfl⟩ ⟨Nat.le_of_ble_eq_true rfl, Nat.le_of_ble_eq_true rfl⟩ (Nat.le_of_ble_eq_true rfl) ⟨Nat.le_of_ble_eq_true rfl, Nat.le_of_ble_eq_true rfl⟩ dX9_readPlate_73 rfl (st := []) (fun x_479028 I_479029 J_479030 h_479031 => ?_)
    obtain ⟨hUI_479029, hFI_479029, hGJ_479030, rx_479028, ex_479028⟩ := h_479031
    have hF_479032 := fq_tr hF_479022 hFI_479029 (by decide)
    have hG_479033 := fq_tr hG_479023 hGJ_479030 (by decide)
    have r_479034 := rg_or ex_479028 (rv_479025) (by decide) (by decide)
    refine g_iconst C (v := (-1)) dX9_readPlate_76 (by decide) ?_
    refine g_icmp_ne C (tgt := 82) dX9_readPlate_77 (by decide) (fun h_479035 => ?_) (fun h_479035 => ?_)
    · skip
      have n_479036 : ¬ x_479028 = (-1) := h_479035
      have r_479037 := ne_lo (lo := 0) n_479036 r_479034 rc_m1 rfl (by decide)
      have r_479038 := eq_rg (Eq.symm (Or.resolve_left ex_479028 (rg_nek r_479037 rc_m1 (by decide)))) r_479037
      refine g_aload_n C 1 dX9_readPlate_82 rfl rfl ?_
      refine g_iconst C (v := 1) dX9_readPlate_83 (by decide) ?_
      refine g_bipush C (v := 40) dX9_readPlate_84 (by decide) ?_
      refine g_callVI C K (c_X10_takeNumber W9 hLa0 hka0 1 40 (rg_w rc_1 (by decide) (by decide)) (rg_w rc_40 (by decide) (by decide)) hUI_479029) hLa0 hka0 (by decide) rfl v_9_91 rfl ⟨rfl, rfl⟩ ⟨Nat.le_of_ble_eq_true rfl, Nat.le_of_ble_eq_true rfl⟩ (Nat.le_of_ble_eq_true rfl) ⟨Nat.le_of_ble_eq_true rfl, Nat.le_of_ble_eq_true rfl⟩ dX9_readPlate_86 rfl (st := []) (fun x_479039 I_479040 J_479041 h_479042 => ?_)
      obtain ⟨hUI_479040, hFI_479040, hGJ_479041, rx_479039⟩ := h_479042
      have hF_479043 := fq_tr hF_479032 hFI_479040 (by decide)
      have hG_479044 := fq_tr hG_479033 hGJ_479041 (by decide)
      refine g_istore C dX9_readPlate_89 (by decide) (lo2 := [(4, .int x_479039), (0, .ref x), (1, .ref a0), (2, .int v_479024), (3, .int v_479025)]) rfl ?_
      refine g_iload C 0 dX9_readPlate_91 rfl ?_
      refine g_iconst C (v := (-1)) dX9_readPlate_93 (by decide) ?_
      refine g_icmp_ne C (tgt := 99) dX9_readPlate_94 (by decide) (fun h_479045 => ?_) (fun h_479045 => ?_)
      · skip
        have n_479046 : ¬ x_479039 = (-1) := h_479045
        refine g_aload_n C 1 dX9_readPlate_99 rfl rfl ?_
        refine g_getR C K hLx hkx f_9_23 hb_479018 dX9_readPlate_100 ?_
        refine g_iload_n C 3 dX9_readPlate_103 rfl rfl ?_
        refine g_iload_n C 4 dX9_readPlate_104 rfl rfl ?_
        refine g_iload C 0 dX9_readPlate_105 rfl ?_
        refine g_callVV C K (c_X1_addToPlate W9 hb_479018L hb_479018k v_479024 v_479025 x_479039 (rv_479024) (r_479038) hUI_479040) hb_479018L hb_479018k (by decide) rfl v_9_128 rfl ⟨rfl, rfl⟩ ⟨Nat.le_of_ble_eq_true rfl, Nat.le_of_ble_eq_true rfl⟩ (Nat.le_of_ble_eq_true rfl) ⟨Nat.le_of_ble_eq_true rfl, Nat.le_of_ble_eq_true rfl⟩ dX9_readPlate_107 rfl (st := []) (fun I_479048 J_479049 h_479050 => ?_)
        obtain ⟨hUI_479048, hFI_479048, hGJ_479049⟩ := h_479050
        have hF_479051 := fq_tr hF_479043 hFI_479048 (by decide)
        have hG_479052 := fq_tr hG_479044 hGJ_479049 (by decide)
        refine g_aload_n C 2 dX9_readPlate_110 rfl rfl ?_
        refine g_bipush C (v := 59) dX9_readPlate_111 (by decide) ?_
        refine g_callVI C K (c_X10_take W9 hLa0 hka0 59 (rg_w rc_59 (by decide) (by decide)) hUI_479048) hLa0 hka0 (by decide) rfl v_9_110 rfl ⟨rfl, rfl⟩ ⟨Nat.le_of_ble_eq_true rfl, Nat.le_of_ble_eq_true rfl⟩ (Nat.le_of_ble_eq_true rfl) ⟨Nat.le_of_ble_eq_true rfl, Nat.le_of_ble_eq_true rfl⟩ dX9_readPlate_113 rfl (st := []) (fun x_479053 I_479054 J_479055 h_479056 => ?_)
        obtain ⟨hUI_479054, hFI_479054, hGJ_479055, rx_479053⟩ := h_479056
        have hF_479057 := fq_tr hF_479051 hFI_479054 (by decide)
        have hG_479058 := fq_tr hG_479052 hGJ_479055 (by decide)
        exact g_zret (ty := .boolean) (r := x_479053) B K rfl (nar_z (rx_479053)) ⟨hUI_479054, hF_479057, hG_479058, rx_479053⟩ dX9_readPlate_116
      · skip
        have r_479059 := (⟨(eq_rg (h_479045) rc_m1).1, (eq_rg (h_479045) rc_m1).2⟩ : Rg (-1) (-1) x_479039)
        refine g_iconst C (v := 0) dX9_readPlate_97 (by decide) ?_
        exact g_zret (ty := .boolean) (r := 0) B K rfl (rfl) ⟨hUI_479040, hF_479043, hG_479044, rg_w rc_0 (by decide) (by decide)⟩ dX9_readPlate_98
    · skip
      have r_479060 := (⟨(r_479034).1, (eq_rg (h_479035) rc_m1).2⟩ : Rg (-1) (-1) x_479028)
      refine g_iconst C (v := 0) dX9_readPlate_80 (by decide) ?_
      exact g_zret (ty := .boolean) (r := 0) B K rfl (rfl) ⟨hUI_479029, hF_479032, hG_479033, rg_w rc_0 (by decide) (by decide)⟩ dX9_readPlate_81
  refine g_aload_n C 1 dX9_readPlate_0 rfl rfl ?_
  refine g_callVV C K (c_X10_advance W9 hLa0 hka0   hU) hLa0 hka0 (by decide) rfl v_9_82 rfl ⟨rfl, rfl⟩ ⟨Nat.le_of_ble_eq_true rfl, Nat.le_of_ble_eq_true rfl⟩ (Nat.le_of_ble_eq_true rfl) ⟨Nat.le_of_ble_eq_true rfl, Nat.le_of_ble_eq_true rfl⟩ dX9_readPlate_1 rfl (st := []) (fun I_479062 J_479063 h_479064 => ?_)
  obtain ⟨hUI_479062, hFI_479062, hGJ_479063⟩ := h_479064
  have hF_479065 := fq_tr hF hFI_479062 (by decide)
  have hG_479066 := fq_tr hG hGJ_479063 (by decide)
  refine g_aload_n C 1 dX9_readPlate_4 rfl rfl ?_
  refine g_aload_n C 0 dX9_readPlate_5 rfl rfl ?_
  refine g_getR C K hLx hkx f_9_12 hb_479017 dX9_readPlate_6 ?_
  refine g_aload_n C 1 dX9_readPlate_9 rfl rfl ?_
  obtain ⟨y_479067, hy_479067⟩ : ∃ z, J_479063 a0 10 = z := ⟨_, rfl⟩
  refine g_getJ C K hLa0 hka0 f_9_71 (v := y_479067) hy_479067 dX9_readPlate_10 ?_
  refine g_callVI C K (c_X8_personNamed W9 hb_479017L hb_479017k y_479067  hUI_479062) hb_479017L hb_479017k (by decide) rfl v_9_75 rfl ⟨rfl, rfl⟩ ⟨Nat.le_of_ble_eq_true rfl, Nat.le_of_ble_eq_true rfl⟩ (Nat.le_of_ble_eq_true rfl) ⟨Nat.le_of_ble_eq_true rfl, Nat.le_of_ble_eq_true rfl⟩ dX9_readPlate_13 rfl (st := [.ref a0]) (fun x_479068 I_479069 J_479070 h_479071 => ?_)
  obtain ⟨rfl, rfl, rx_479068⟩ := h_479071
  refine g_callVI C K (c_X10_takeName W9 hLa0 hka0 x_479068 (rx_479068) hUI_479062) hLa0 hka0 (by decide) rfl v_9_95 rfl ⟨rfl, rfl⟩ ⟨Nat.le_of_ble_eq_true rfl, Nat.le_of_ble_eq_true rfl⟩ (Nat.le_of_ble_eq_true rfl) ⟨Nat.le_of_ble_eq_true rfl, Nat.le_of_ble_eq_true rfl⟩ dX9_readPlate_16 rfl (st := []) (fun x_479072 I_479073 J_479074 h_479075 => ?_)
  obtain ⟨hUI_479073, hFI_479073, hGJ_479074, rx_479072, ex_479072⟩ := h_479075
  have hF_479076 := fq_tr hF_479065 hFI_479073 (by decide)
  have hG_479077 := fq_tr hG_479066 hGJ_479074 (by decide)
  have r_479078 := rg_or ex_479072 (rx_479068) (by decide) (by decide)
  refine g_istore_n C dX9_readPlate_19 rfl (by decide) (lo2 := [(2, .int x_479072), (0, .ref x), (1, .ref a0)]) rfl ?_
  refine g_iload_n C 0 dX9_readPlate_20 rfl rfl ?_
  refine g_iconst C (v := (-1)) dX9_readPlate_21 (by decide) ?_
  refine g_icmp_ne C (tgt := 27) dX9_readPlate_22 (by decide) (fun h_479079 => ?_) (fun h_479079 => ?_)
  · skip
    have n_479080 : ¬ x_479072 = (-1) := h_479079
    have r_479081 := ne_lo (lo := 0) n_479080 r_479078 rc_m1 rfl (by decide)
    have r_479082 := eq_rg (Eq.symm (Or.resolve_left ex_479072 (rg_nek r_479081 rc_m1 (by decide)))) r_479081
    refine g_aload_n C 1 dX9_readPlate_27 rfl rfl ?_
    refine g_getR C K hLx hkx f_9_12 hb_479017 dX9_readPlate_28 ?_
    refine g_aload_n C 2 dX9_readPlate_31 rfl rfl ?_
    obtain ⟨y_479083, hy_479083⟩ : ∃ z, J_479074 a0 10 = z := ⟨_, rfl⟩
    refine g_getJ C K hLa0 hka0 f_9_71 (v := y_479083) hy_479083 dX9_readPlate_32 ?_
    refine g_callVI C K (c_X8_dishNamed W9 hb_479017L hb_479017k y_479083  hUI_479073) hb_479017L hb_479017k (by decide) rfl v_9_79 rfl ⟨rfl, rfl⟩ ⟨Nat.le_of_ble_eq_true rfl, Nat.le_of_ble_eq_true rfl⟩ (Nat.le_of_ble_eq_true rfl) ⟨Nat.le_of_ble_eq_true rfl, Nat.le_of_ble_eq_true rfl⟩ dX9_readPlate_35 rfl (st := []) (fun x_479084 I_479085 J_479086 h_479087 => ?_)
    obtain ⟨rfl, rfl, rx_479084⟩ := h_479087
    refine g_istore_n C dX9_readPlate_38 rfl (by decide) (lo2 := [(3, .int x_479084), (2, .int x_479072), (0, .ref x), (1, .ref a0)]) rfl ?_
    refine g_aload_n C 3 dX9_readPlate_39 rfl rfl ?_
    obtain ⟨x_479088, hx_479088, rx_479088⟩ := ex_get (I := I_479073) (a := a0) (j := 8) (lo := (-2147483648)) (hi := 2147483647) hUI_479073.1 hLa0 (ro_o hka0 (by decide)) rfl
    refine g_getI C K hLa0 hka0 f_9_44 (v := x_479088) hx_479088 dX9_readPlate_40 ?_
    refine g_bipush C (v := 100) dX9_readPlate_43 (by decide) ?_
    refine g_icmp_ne C (tgt := 71) dX9_readPlate_45 (by decide) (fun h_479089 => ?_) (fun h_479089 => ?_)
    · skip
      have n_479090 : ¬ x_479088 = 100 := h_479089
      refine g_lo (is := [2, 3, 1, 0]) (lo2 := [(0, .ref x), (1, .ref a0), (2, .int x_479072), (3, .int x_479084)]) rfl ?_
      exact j_71 I_479073 J_479074 hUI_479073 hF_479076 hG_479077 x_479072 (r_479081) (n_479080) x_479084 (rx_479084) x_479088 hx_479088
    · skip
      have r_479091 := (⟨(eq_rg (h_479089) rc_100).1, (eq_rg (h_479089) rc_100).2⟩ : Rg 100 100 x_479088)
      refine g_iload_n C 0 dX9_readPlate_48 rfl rfl ?_
      refine g_iconst C (v := (-1)) dX9_readPlate_49 (by decide) ?_
      refine g_icmp_eq C (tgt := 71) dX9_readPlate_50 (by decide) (fun h_479092 => ?_) (fun h_479092 => ?_)
      · skip
        have r_479093 := (⟨(rx_479084).1, (eq_rg (h_479092) rc_m1).2⟩ : Rg (-1) (-1) x_479084)
        refine g_lo (is := [2, 3, 1, 0]) (lo2 := [(0, .ref x), (1, .ref a0), (2, .int x_479072), (3, .int x_479084)]) rfl ?_
        exact j_71 I_479073 J_479074 hUI_479073 hF_479076 hG_479077 x_479072 (r_479081) (n_479080) x_479084 (rg_w r_479093 (by decide) (by decide)) x_479088 hx_479088
      · skip
        have n_479094 : ¬ x_479084 = (-1) := h_479092
        have r_479095 := ne_lo (lo := 0) n_479094 rx_479084 rc_m1 rfl (by decide)
        refine g_aload_n C 2 dX9_readPlate_53 rfl rfl ?_
        refine g_getR C K hLx hkx f_9_23 hb_479018 dX9_readPlate_54 ?_
        refine g_iload_n C 1 dX9_readPlate_57 rfl rfl ?_
        refine g_iload_n C 0 dX9_readPlate_58 rfl rfl ?_
        refine g_callVI C K (c_X1_onPlate W9 hb_479018L hb_479018k x_479072 x_479084 (r_479081) (r_479095) hUI_479073) hb_479018L hb_479018k (by decide) rfl v_9_125 rfl ⟨rfl, rfl⟩ ⟨Nat.le_of_ble_eq_true rfl, Nat.le_of_ble_eq_true rfl⟩ (Nat.le_of_ble_eq_true rfl) ⟨Nat.le_of_ble_eq_true rfl, Nat.le_of_ble_eq_true rfl⟩ dX9_readPlate_59 rfl (st := []) (fun x_479096 I_479097 J_479098 h_479099 => ?_)
        obtain ⟨rfl, rfl, rx_479096⟩ := h_479099
        refine g_if_le C (tgt := 71) dX9_readPlate_62 (by decide) (fun h_479100 => ?_) (fun h_479100 => ?_)
        · skip
          have r_479101 := le_l (h_479100) rx_479096 rc_0
          refine g_lo (is := [2, 3, 1, 0]) (lo2 := [(0, .ref x), (1, .ref a0), (2, .int x_479072), (3, .int x_479084)]) rfl ?_
          exact j_71 I_479073 J_479074 hUI_479073 hF_479076 hG_479077 x_479072 (r_479081) (n_479080) x_479084 (rg_w r_479095 (by decide) (by decide)) x_479088 hx_479088
        · skip
          have r_479102 := lt_r (lo := 1) (nle h_479100) rc_0 rx_479096 (by decide)
          refine g_aload_n C 3 dX9_readPlate_65 rfl rfl ?_
          refine g_iconst C (v := 3) dX9_readPlate_66 (by decide) ?_
          refine g_callVI C K (c_X10_fail W9 hLa0 hka0 3 (rg_w rc_3 (by decide) (by decide)) hUI_479073) hLa0 hka0 (by decide) rfl v_9_67 rfl ⟨rfl, rfl⟩ ⟨Nat.le_of_ble_eq_true rfl, Nat.le_of_ble_eq_true rfl⟩ (Nat.le_of_ble_eq_true rfl) ⟨Nat.le_of_ble_eq_true rfl, Nat.le_of_ble_eq_true rfl⟩ dX9_readPlate_67 rfl (st := []) (fun x_479103 I_479104 J_479105 h_479106 => ?_)
          obtain ⟨hUI_479104, hFI_479104, hGJ_479105, rx_479103⟩ := h_479106
          have hF_479107 := fq_tr hF_479076 hFI_479104 (by decide)
          have hG_479108 := fq_tr hG_479077 hGJ_479105 (by decide)
          exact g_zret (ty := .boolean) (r := x_479103) B K rfl (nar_z (rg_w rx_479103 (by decide) (by decide))) ⟨hUI_479104, hF_479107, hG_479108, rg_w rx_479103 (by decide) (by decide)⟩ dX9_readPlate_70
  · skip
    have r_479109 := (⟨(r_479078).1, (eq_rg (h_479079) rc_m1).2⟩ : Rg (-1) (-1) x_479072)
    refine g_iconst C (v := 0) dX9_readPlate_25 (by decide) ?_
    exact g_zret (ty := .boolean) (r := 0) B K rfl (rfl) ⟨hUI_479073, hF_479076, hG_479077, rg_w rc_0 (by decide) (by decide)⟩ dX9_readPlate_26
set_option maxRecDepth 100000 in
set_option maxHeartbeats 8000000 in
theorem c_X9_readLine {l : Launch} {D : va_G} {cy : Nat → ClassId} {L : List Nat} {κ ln : Nat → Nat} {R : Nat → Nat → Option Nat} {I : Nat → Nat → Int32} {J : Nat → Nat → Int64} {ow : Nat → Nat × Nat} (W9 : ∀ a ∈ L, Shp L κ ln R ow a) {x : Nat} (hLx : x ∈ L) (hkx : κ x = 9) {a0 : Nat} (hLa0 : a0 ∈ L) (hka0 : κ a0 = 10) (hU : Iv L κ R ow I) : CtI l yX9_readLine cX9_readLine 2 (some .boolean) { frames := 3, cells := 0, slots := 0, locals := 69 } D cy L κ ln R I J [.ref x, .ref a0] (fun r I2 J2 => Iv L κ R ow I2 ∧ Fq L κ ow [805, 806, 807, 808, 902, 903, 1007, 1008, 1009, 1011, 1012, 16100, 16200, 16300, 58100, 58200, 58400] I I2 ∧ Fq L κ ow [1010, 58000, 58300] J J2 ∧ Rg 0 1 r) := by
  refine CtI.of (by decide +kernel) (Nat.le_of_ble_eq_true rfl) ?_
  intro p e s m below meth c B K
  have C := B.1
  have hF : Fq L κ ow [805, 806, 807, 808, 902, 903, 1007, 1008, 1009, 1011, 1012, 16100, 16200, 16300, 58100, 58200, 58400] I I := fq_rf
  have hG : Fq L κ ow [1010, 58000, 58300] J J := fq_rf
  refine g_lo (is := [0, 1]) (lo2 := [(0, .ref x), (1, .ref a0)]) rfl ?_
  refine g_aload_n C 1 dX9_readLine_0 rfl rfl ?_
  obtain ⟨x_479206, hx_479206, rx_479206⟩ := ex_get (I := I) (a := a0) (j := 8) (lo := (-2147483648)) (hi := 2147483647) hU.1 hLa0 (ro_o hka0 (by decide)) rfl
  refine g_getI C K hLa0 hka0 f_9_44 (v := x_479206) hx_479206 dX9_readLine_1 ?_
  by_cases c_479207 : x_479206.toInt = 0
  · skip
    have r_479208 := rg_of (a := 0) (b := 0) 0 c_479207 (by decide) (by decide)
    refine g_tableIn C (tgt := 40) dX9_readLine_4 (by omega) (by omega) (off := 36) (by rw [c_479207]; rfl) (by decide) ?_
    refine g_aload_n C 0 dX9_readLine_40 rfl rfl ?_
    refine g_aload_n C 1 dX9_readLine_41 rfl rfl ?_
    refine g_callVI C K (c_X9_readPerson W9 hLx hkx hLa0 hka0  hU) hLx hkx (by decide) rfl v_9_52 rfl ⟨rfl, rfl⟩ ⟨Nat.le_of_ble_eq_true rfl, Nat.le_of_ble_eq_true rfl⟩ (Nat.le_of_ble_eq_true rfl) ⟨Nat.le_of_ble_eq_true rfl, Nat.le_of_ble_eq_true rfl⟩ dX9_readLine_42 rfl (st := []) (fun x_479209 I_479210 J_479211 h_479212 => ?_)
    obtain ⟨hUI_479210, hFI_479210, hGJ_479211, rx_479209⟩ := h_479212
    have hF_479213 := fq_tr hF hFI_479210 (by decide)
    have hG_479214 := fq_tr hG hGJ_479211 (by decide)
    exact g_zret (ty := .boolean) (r := x_479209) B K rfl (nar_z (rx_479209)) ⟨hUI_479210, hF_479213, hG_479214, rx_479209⟩ dX9_readLine_45
  by_cases c_479215 : x_479206.toInt = 1
  · skip
    have r_479216 := rg_of (a := 1) (b := 1) 1 c_479215 (by decide) (by decide)
    refine g_tableIn C (tgt := 46) dX9_readLine_4 (by omega) (by omega) (off := 42) (by rw [c_479215]; rfl) (by decide) ?_
    refine g_aload_n C 0 dX9_readLine_46 rfl rfl ?_
    refine g_aload_n C 1 dX9_readLine_47 rfl rfl ?_
    refine g_callVI C K (c_X9_readDish W9 hLx hkx hLa0 hka0  hU) hLx hkx (by decide) rfl v_9_55 rfl ⟨rfl, rfl⟩ ⟨Nat.le_of_ble_eq_true rfl, Nat.le_of_ble_eq_true rfl⟩ (Nat.le_of_ble_eq_true rfl) ⟨Nat.le_of_ble_eq_true rfl, Nat.le_of_ble_eq_true rfl⟩ dX9_readLine_48 rfl (st := []) (fun x_479217 I_479218 J_479219 h_479220 => ?_)
    obtain ⟨hUI_479218, hFI_479218, hGJ_479219, rx_479217⟩ := h_479220
    have hF_479221 := fq_tr hF hFI_479218 (by decide)
    have hG_479222 := fq_tr hG hGJ_479219 (by decide)
    exact g_zret (ty := .boolean) (r := x_479217) B K rfl (nar_z (rx_479217)) ⟨hUI_479218, hF_479221, hG_479222, rx_479217⟩ dX9_readLine_51
  by_cases c_479223 : x_479206.toInt = 2
  · skip
    have r_479224 := rg_of (a := 2) (b := 2) 2 c_479223 (by decide) (by decide)
    refine g_tableIn C (tgt := 52) dX9_readLine_4 (by omega) (by omega) (off := 48) (by rw [c_479223]; rfl) (by decide) ?_
    refine g_aload_n C 0 dX9_readLine_52 rfl rfl ?_
    refine g_aload_n C 1 dX9_readLine_53 rfl rfl ?_
    refine g_callVI C K (c_X9_readPlate W9 hLx hkx hLa0 hka0  hU) hLx hkx (by decide) rfl v_9_58 rfl ⟨rfl, rfl⟩ ⟨Nat.le_of_ble_eq_true rfl, Nat.le_of_ble_eq_true rfl⟩ (Nat.le_of_ble_eq_true rfl) ⟨Nat.le_of_ble_eq_true rfl, Nat.le_of_ble_eq_true rfl⟩ dX9_readLine_54 rfl (st := []) (fun x_479225 I_479226 J_479227 h_479228 => ?_)
    obtain ⟨hUI_479226, hFI_479226, hGJ_479227, rx_479225⟩ := h_479228
    have hF_479229 := fq_tr hF hFI_479226 (by decide)
    have hG_479230 := fq_tr hG hGJ_479227 (by decide)
    exact g_zret (ty := .boolean) (r := x_479225) B K rfl (nar_z (rx_479225)) ⟨hUI_479226, hF_479229, hG_479230, rx_479225⟩ dX9_readLine_57
  by_cases c_479231 : x_479206.toInt = 3
  · skip
    have r_479232 := rg_of (a := 3) (b := 3) 3 c_479231 (by decide) (by decide)
    refine g_tableIn C (tgt := 58) dX9_readLine_4 (by omega) (by omega) (off := 54) (by rw [c_479231]; rfl) (by decide) ?_
    refine g_aload_n C 0 dX9_readLine_58 rfl rfl ?_
    refine g_aload_n C 1 dX9_readLine_59 rfl rfl ?_
    refine g_callVI C K (c_X9_readLaw W9 hLx hkx hLa0 hka0  hU) hLx hkx (by decide) rfl v_9_61 rfl ⟨rfl, rfl⟩ ⟨Nat.le_of_ble_eq_true rfl, Nat.le_of_ble_eq_true rfl⟩ (Nat.le_of_ble_eq_true rfl) ⟨Nat.le_of_ble_eq_true rfl, Nat.le_of_ble_eq_true rfl⟩ dX9_readLine_60 rfl (st := []) (fun x_479233 I_479234 J_479235 h_479236 => ?_)
    obtain ⟨hUI_479234, hFI_479234, hGJ_479235, rx_479233⟩ := h_479236
    have hF_479237 := fq_tr hF hFI_479234 (by decide)
    have hG_479238 := fq_tr hG hGJ_479235 (by decide)
    exact g_zret (ty := .boolean) (r := x_479233) B K rfl (nar_z (rx_479233)) ⟨hUI_479234, hF_479237, hG_479238, rx_479233⟩ dX9_readLine_63
  by_cases c_479239 : x_479206.toInt = 4
  · skip
    have r_479240 := rg_of (a := 4) (b := 4) 4 c_479239 (by decide) (by decide)
    refine g_tableIn C (tgt := 64) dX9_readLine_4 (by omega) (by omega) (off := 60) (by rw [c_479239]; rfl) (by decide) ?_
    refine g_aload_n C 0 dX9_readLine_64 rfl rfl ?_
    refine g_aload_n C 1 dX9_readLine_65 rfl rfl ?_
    refine g_callVI C K (c_X9_readDogs W9 hLx hkx hLa0 hka0  hU) hLx hkx (by decide) rfl v_9_64 rfl ⟨rfl, rfl⟩ ⟨Nat.le_of_ble_eq_true rfl, Nat.le_of_ble_eq_true rfl⟩ (Nat.le_of_ble_eq_true rfl) ⟨Nat.le_of_ble_eq_true rfl, Nat.le_of_ble_eq_true rfl⟩ dX9_readLine_66 rfl (st := []) (fun x_479241 I_479242 J_479243 h_479244 => ?_)
    obtain ⟨hUI_479242, hFI_479242, hGJ_479243, rx_479241⟩ := h_479244
    have hF_479245 := fq_tr hF hFI_479242 (by decide)
    have hG_479246 := fq_tr hG hGJ_479243 (by decide)
    exact g_zret (ty := .boolean) (r := x_479241) B K rfl (nar_z (rx_479241)) ⟨hUI_479242, hF_479245, hG_479246, rx_479241⟩ dX9_readLine_69
  obtain ⟨q_4792471, q_4792472⟩ := rx_479206
  refine g_tableOut C (tgt := 70) dX9_readLine_4 (by omega) (by decide) ?_
  refine g_aload_n C 1 dX9_readLine_70 rfl rfl ?_
  refine g_iconst C (v := 1) dX9_readLine_71 (by decide) ?_
  refine g_callVI C K (c_X10_fail W9 hLa0 hka0 1 (rg_w rc_1 (by decide) (by decide)) hU) hLa0 hka0 (by decide) rfl v_9_67 rfl ⟨rfl, rfl⟩ ⟨Nat.le_of_ble_eq_true rfl, Nat.le_of_ble_eq_true rfl⟩ (Nat.le_of_ble_eq_true rfl) ⟨Nat.le_of_ble_eq_true rfl, Nat.le_of_ble_eq_true rfl⟩ dX9_readLine_72 rfl (st := []) (fun x_479248 I_479249 J_479250 h_479251 => ?_)
  obtain ⟨hUI_479249, hFI_479249, hGJ_479250, rx_479248⟩ := h_479251
  have hF_479252 := fq_tr hF hFI_479249 (by decide)
  have hG_479253 := fq_tr hG hGJ_479250 (by decide)
  exact g_zret (ty := .boolean) (r := x_479248) B K rfl (nar_z (rg_w rx_479248 (by decide) (by decide))) ⟨hUI_479249, hF_479252, hG_479253, rg_w rx_479248 (by decide) (by decide)⟩ dX9_readLine_75
set_option maxRecDepth 100000 in
set_option maxHeartbeats 8000000 in
theorem c_X9_readFrom {l : Launch} {D : va_G} {cy : Nat → ClassId} {L : List Nat} {κ ln : Nat → Nat} {R : Nat → Nat → Option Nat} {I : Nat → Nat → Int32} {J : Nat → Nat → Int64} {ow : Nat → Nat × Nat} (W9 : ∀ a ∈ L, Shp L κ ln R ow a) {x : Nat} (hLx : x ∈ L) (hkx : κ x = 9) {a0 : Nat} (hLa0 : a0 ∈ L) (hka0 : κ a0 = 10) (hU : Iv L κ R ow I) : CtI l yX9_readFrom cX9_readFrom 3 (some .int) { frames := 4, cells := 0, slots := 0, locals := 90 } D cy L κ ln R I J [.ref x, .ref a0] (fun r I2 J2 => Iv L κ R ow I2 ∧ Fq L κ ow [107, 108, 109, 110, 111, 112, 805, 806, 807, 808, 902, 903, 1006, 1007, 1008, 1009, 1011, 1012, 16100, 16200, 16300, 16400, 16500, 16600, 58100, 58200, 58400, 70200, 70300] I I2 ∧ Fq L κ ow [1010, 58000, 58300, 70400] J J2 ∧ Rg 0 900 r) := by
  refine CtI.of (by decide +kernel) (Nat.le_of_ble_eq_true rfl) ?_
  intro p e s m below meth c B K
  have C := B.1
  have hF : Fq L κ ow [107, 108, 109, 110, 111, 112, 805, 806, 807, 808, 902, 903, 1006, 1007, 1008, 1009, 1011, 1012, 16100, 16200, 16300, 16400, 16500, 16600, 58100, 58200, 58400, 70200, 70300] I I := fq_rf
  have hG : Fq L κ ow [1010, 58000, 58300, 70400] J J := fq_rf
  obtain ⟨b_480122, hb_480122, hb_480122L, hb_480122k⟩ := shp_o (W9 x hLx) hkx 0 8 rfl (by decide)
  obtain ⟨b_480123, hb_480123, hb_480123L, hb_480123k⟩ := shp_o (W9 x hLx) hkx 1 1 rfl (by decide)
  refine g_lo (is := [0, 1]) (lo2 := [(0, .ref x), (1, .ref a0)]) rfl ?_
  have l_33 : ∀ (n_33 : Nat) (I_480124 : Nat → Nat → Int32) (J_480125 : Nat → Nat → Int64) (hU_480126 : Iv L κ R ow I_480124) (hF_480127 : Fq L κ ow [107, 108, 109, 110, 111, 112, 805, 806, 807, 808, 902, 903, 1006, 1007, 1008, 1009, 1011, 1012, 16100, 16200, 16300, 16400, 16500, 16600, 58100, 58200, 58400, 70200, 70300] I I_480124) (hG_480128 : Fq L κ ow [1010, 58000, 58300, 70400] J J_480125) (v_480129 : Int32) (rv_480129 : Rg 0 900 v_480129) (hm_480130 : 900 < (v_480129 : Int32).toInt + (n_33 : Int)), WG p l e { frames := 4, cells := 0, slots := 0, locals := 90 } s m ([.ref x, .ref a0] : List Value).toArray below meth c 3 0 0 (MQ below (Qi_ D cy L κ ln R (fun r I2 J2 => Iv L κ R ow I2 ∧ Fq L κ ow [107, 108, 109, 110, 111, 112, 805, 806, 807, 808, 902, 903, 1006, 1007, 1008, 1009, 1011, 1012, 16100, 16200, 16300, 16400, 16500, 16600, 58100, 58200, 58400, 70200, 70300] I I2 ∧ Fq L κ ow [1010, 58000, 58300, 70400] J J2 ∧ Rg 0 900 r)) ([.ref x, .ref a0] : List Value).toArray s 0 0 (Al_ L)) D cy (Al_ L) s.heap L κ ln R I_480124 J_480125 33 [(0, .ref x), (1, .ref a0), (2, .int v_480129)] [] := by
    intro n_33
    induction n_33 with
    | zero =>
      intro I_480124 J_480125 hU_480126 hF_480127 hG_480128 v_480129 rv_480129 hm_480130
      exact ms_0 rv_480129 hm_480130
    | succ n_33 ih_33 =>
      intro I_480124 J_480125 hU_480126 hF_480127 hG_480128 v_480129 rv_480129 hm_480130
      refine g_iload_n C 2 dX9_readFrom_33 rfl rfl ?_
      refine g_sipush C (v := 900) dX9_readFrom_34 (by decide) ?_
      refine g_icmp_ge C (tgt := 63) dX9_readFrom_37 (by decide) (fun h_480131 => ?_) (fun h_480131 => ?_)
      · skip
        have r_480132 := le_r (h_480131) rc_900 rv_480129
        refine g_iload_n C 2 dX9_readFrom_63 rfl rfl ?_
        exact g_zret (ty := .int) (r := v_480129) B K rfl (rfl) ⟨hU_480126, hF_480127, hG_480128, rg_w r_480132 (by decide) (by decide)⟩ dX9_readFrom_64
      · skip
        have r_480133 := lt_l (hi := 899) (nle h_480131) rv_480129 rc_900 (by decide)
        refine g_aload_n C 1 dX9_readFrom_40 rfl rfl ?_
        obtain ⟨x_480134, hx_480134, rx_480134⟩ := ex_get (I := I_480124) (a := a0) (j := 8) (lo := (-2147483648)) (hi := 2147483647) hU_480126.1 hLa0 (ro_o hka0 (by decide)) rfl
        refine g_getI C K hLa0 hka0 f_9_44 (v := x_480134) hx_480134 dX9_readFrom_41 ?_
        refine g_bipush C (v := 102) dX9_readFrom_44 (by decide) ?_
        refine g_icmp_eq C (tgt := 63) dX9_readFrom_46 (by decide) (fun h_480135 => ?_) (fun h_480135 => ?_)
        · skip
          have r_480136 := (⟨(eq_rg (h_480135) rc_102).1, (eq_rg (h_480135) rc_102).2⟩ : Rg 102 102 x_480134)
          refine g_iload_n C 2 dX9_readFrom_63 rfl rfl ?_
          exact g_zret (ty := .int) (r := v_480129) B K rfl (rfl) ⟨hU_480126, hF_480127, hG_480128, rg_w r_480133 (by decide) (by decide)⟩ dX9_readFrom_64
        · skip
          have n_480137 : ¬ x_480134 = 102 := h_480135
          refine g_aload_n C 0 dX9_readFrom_49 rfl rfl ?_
          refine g_aload_n C 1 dX9_readFrom_50 rfl rfl ?_
          refine g_callVI C K (c_X9_readLine W9 hLx hkx hLa0 hka0  hU_480126) hLx hkx (by decide) rfl v_9_48 rfl ⟨rfl, rfl⟩ ⟨Nat.le_of_ble_eq_true rfl, Nat.le_of_ble_eq_true rfl⟩ (Nat.le_of_ble_eq_true rfl) ⟨Nat.le_of_ble_eq_true rfl, Nat.le_of_ble_eq_true rfl⟩ dX9_readFrom_51 rfl (st := []) (fun x_480138 I_480139 J_480140 h_480141 => ?_)
          obtain ⟨hUI_480139, hFI_480139, hGJ_480140, rx_480138⟩ := h_480141
          have hF_480142 := fq_tr hF_480127 hFI_480139 (by decide)
          have hG_480143 := fq_tr hG_480128 hGJ_480140 (by decide)
          refine g_if_eq C (tgt := 63) dX9_readFrom_54 (by decide) (fun h_480144 => ?_) (fun h_480144 => ?_)
          · skip
            have r_480145 := (⟨(rx_480138).1, (eq_rg (h_480144) rc_0).2⟩ : Rg 0 0 x_480138)
            refine g_iload_n C 2 dX9_readFrom_63 rfl rfl ?_
            exact g_zret (ty := .int) (r := v_480129) B K rfl (rfl) ⟨hUI_480139, hF_480142, hG_480143, rg_w r_480133 (by decide) (by decide)⟩ dX9_readFrom_64
          · skip
            have n_480146 : ¬ x_480138 = 0 := h_480144
            have r_480147 := ne_lo (lo := 1) n_480146 rx_480138 rc_0 rfl (by decide)
            obtain ⟨x_480148, hx_480148, rx_480148, tx_480148⟩ := ex_add (y := 1) 1 900 r_480133 rc_1 (by decide) (by decide) (by decide) (by decide)
            refine g_iinc C dX9_readFrom_57 (k := 2) (v := x_480148) rfl hx_480148 (by decide) (lo2 := [(2, .int x_480148), (0, .ref x), (1, .ref a0)]) rfl ?_
            refine g_goto C (tgt := 33) dX9_readFrom_60 (by decide) ?_
            refine g_lo (is := [1, 2, 0]) (lo2 := [(0, .ref x), (1, .ref a0), (2, .int x_480148)]) rfl ?_
            exact ih_33 I_480139 J_480140 hUI_480139 hF_480142 hG_480143 x_480148 (rg_w rx_480148 (by decide) (by decide)) (ms_1 hm_480130 (ti_k tx_480148 rc_1) (by decide))
  refine g_aload_n C 0 dX9_readFrom_0 rfl rfl ?_
  refine g_getR C K hLx hkx f_9_12 hb_480122 dX9_readFrom_1 ?_
  refine g_callVV C K (c_X8_forget W9 hb_480122L hb_480122k   hU) hb_480122L hb_480122k (by decide) rfl v_9_34 rfl ⟨rfl, rfl⟩ ⟨Nat.le_of_ble_eq_true rfl, Nat.le_of_ble_eq_true rfl⟩ (Nat.le_of_ble_eq_true rfl) ⟨Nat.le_of_ble_eq_true rfl, Nat.le_of_ble_eq_true rfl⟩ dX9_readFrom_4 rfl (st := []) (fun I_480150 J_480151 h_480152 => ?_)
  obtain ⟨hUI_480150, hFI_480150, hGJ_480151⟩ := h_480152
  have hF_480153 := fq_tr hF hFI_480150 (by decide)
  have hG_480154 := fq_tr hG hGJ_480151 (by decide)
  refine g_aload_n C 0 dX9_readFrom_7 rfl rfl ?_
  refine g_getR C K hLx hkx f_9_23 hb_480123 dX9_readFrom_8 ?_
  refine g_callVV C K (c_X1_forget W9 hb_480123L hb_480123k   hUI_480150) hb_480123L hb_480123k (by decide) rfl v_9_37 rfl ⟨rfl, rfl⟩ ⟨Nat.le_of_ble_eq_true rfl, Nat.le_of_ble_eq_true rfl⟩ (Nat.le_of_ble_eq_true rfl) ⟨Nat.le_of_ble_eq_true rfl, Nat.le_of_ble_eq_true rfl⟩ dX9_readFrom_11 rfl (st := []) (fun I_480156 J_480157 h_480158 => ?_)
  obtain ⟨hUI_480156, hFI_480156, hGJ_480157⟩ := h_480158
  have hF_480159 := fq_tr hF_480153 hFI_480156 (by decide)
  have hG_480160 := fq_tr hG_480154 hGJ_480157 (by decide)
  refine g_aload_n C 0 dX9_readFrom_14 rfl rfl ?_
  refine g_iconst C (v := 0) dX9_readFrom_15 (by decide) ?_
  refine h_putZ C K hLx hkx f_9_27 p_9_2 (rg_bool (rg_w rc_0 (by decide) (by decide))) dX9_readFrom_16 (fun I_480161 hI_480161 => ?_)
  have hU_480162 := iv_put W9 hUI_480156 hI_480161 (ro_o hkx (by decide)) (lo := 0) (hi := 1) (rfl) (rg_w rc_0 (by decide) (by decide)) rfl
  have hF_480163 := fq_puto hF_480159 hI_480161 hkx (by decide) (by decide)
  refine g_aload_n C 0 dX9_readFrom_19 rfl rfl ?_
  refine g_iconst C (v := 0) dX9_readFrom_20 (by decide) ?_
  refine h_putZ C K hLx hkx f_9_31 p_9_3 (rg_bool (rg_w rc_0 (by decide) (by decide))) dX9_readFrom_21 (fun I_480164 hI_480164 => ?_)
  have hU_480165 := iv_put W9 hU_480162 hI_480164 (ro_o hkx (by decide)) (lo := 0) (hi := 1) (rfl) (rg_w rc_0 (by decide) (by decide)) rfl
  have hF_480166 := fq_puto hF_480163 hI_480164 hkx (by decide) (by decide)
  refine g_aload_n C 1 dX9_readFrom_24 rfl rfl ?_
  refine g_sipush C (v := 900) dX9_readFrom_25 (by decide) ?_
  refine g_callVV C K (c_X10_begin W9 hLa0 hka0 900 (rg_w rc_900 (by decide) (by decide)) hU_480165) hLa0 hka0 (by decide) rfl v_9_38 rfl ⟨rfl, rfl⟩ ⟨Nat.le_of_ble_eq_true rfl, Nat.le_of_ble_eq_true rfl⟩ (Nat.le_of_ble_eq_true rfl) ⟨Nat.le_of_ble_eq_true rfl, Nat.le_of_ble_eq_true rfl⟩ dX9_readFrom_28 rfl (st := []) (fun I_480168 J_480169 h_480170 => ?_)
  obtain ⟨hUI_480168, hFI_480168, hGJ_480169⟩ := h_480170
  have hF_480171 := fq_tr hF_480166 hFI_480168 (by decide)
  have hG_480172 := fq_tr hG_480160 hGJ_480169 (by decide)
  refine g_iconst C (v := 0) dX9_readFrom_31 (by decide) ?_
  refine g_istore_n C dX9_readFrom_32 rfl (by decide) (lo2 := [(2, .int 0), (0, .ref x), (1, .ref a0)]) rfl ?_
  refine g_lo (is := [1, 2, 0]) (lo2 := [(0, .ref x), (1, .ref a0), (2, .int 0)]) rfl ?_
  exact l_33 901 I_480168 J_480169 hUI_480168 hF_480171 hG_480172 0 (rg_w rc_0 (by decide) (by decide)) (ms_s (a := 0) (b := 900) (N := 901) (rg_w rc_0 (by decide) (by decide)) (by decide))
set_option maxRecDepth 100000 in
set_option maxHeartbeats 8000000 in
theorem c_X11_table {l : Launch} {D : va_G} {cy : Nat → ClassId} {L : List Nat} {κ ln : Nat → Nat} {R : Nat → Nat → Option Nat} {I : Nat → Nat → Int32} {J : Nat → Nat → Int64} {ow : Nat → Nat × Nat} (W9 : ∀ a ∈ L, Shp L κ ln R ow a) {x : Nat} (hLx : x ∈ L) (hkx : κ x = 11) (hU : Iv L κ R ow I) : CtI l yX11_table cX11_table 2 (some .int) { frames := 5, cells := 0, slots := 0, locals := 112 } D cy L κ ln R I J [.ref x] (fun r I2 J2 => Iv L κ R ow I2 ∧ Fq L κ ow [107, 108, 109, 110, 111, 112, 501, 704, 705, 805, 806, 807, 808, 902, 903, 1005, 1006, 1007, 1008, 1009, 1011, 1012, 16100, 16200, 16300, 16400, 16500, 16600, 58100, 58200, 58400, 70200, 70300] I I2 ∧ Fq L κ ow [1010, 58000, 58300, 70400] J J2 ∧ Rg (-2147483648) 2147483647 r) := by
  refine CtI.of (by decide +kernel) (Nat.le_of_ble_eq_true rfl) ?_
  intro p e s m below meth c B K
  have C := B.1
  have hF : Fq L κ ow [107, 108, 109, 110, 111, 112, 501, 704, 705, 805, 806, 807, 808, 902, 903, 1005, 1006, 1007, 1008, 1009, 1011, 1012, 16100, 16200, 16300, 16400, 16500, 16600, 58100, 58200, 58400, 70200, 70300] I I := fq_rf
  have hG : Fq L κ ow [1010, 58000, 58300, 70400] J J := fq_rf
  obtain ⟨b_480267, hb_480267, hb_480267L, hb_480267k⟩ := shp_o (W9 x hLx) hkx 4 5 rfl (by decide)
  obtain ⟨b_480268, hb_480268, hb_480268L, hb_480268k⟩ := shp_o (W9 x hLx) hkx 2 1 rfl (by decide)
  obtain ⟨b_480269, hb_480269, hb_480269L, hb_480269k⟩ := shp_o (W9 x hLx) hkx 7 7 rfl (by decide)
  obtain ⟨b_480270, hb_480270, hb_480270L, hb_480270k⟩ := shp_o (W9 x hLx) hkx 0 10 rfl (by decide)
  obtain ⟨b_480271, hb_480271, hb_480271L, hb_480271k⟩ := shp_o (W9 x hLx) hkx 1 8 rfl (by decide)
  obtain ⟨b_480272, hb_480272, hb_480272L, hb_480272k⟩ := shp_o (W9 x hLx) hkx 5 9 rfl (by decide)
  obtain ⟨b_480273, hb_480273, hb_480273L, hb_480273k⟩ := shp_o (W9 b_480272 hb_480272L) hb_480272k 0 8 rfl (by decide)
  obtain ⟨b_480274, hb_480274, hb_480274L, hb_480274k⟩ := shp_o (W9 b_480272 hb_480272L) hb_480272k 1 1 rfl (by decide)
  refine g_lo (is := [0]) (lo2 := [(0, .ref x)]) rfl ?_
  refine g_aload_n C 0 dX11_table_0 rfl rfl ?_
  refine g_getR C K hLx hkx f_11_45 hb_480272 dX11_table_1 ?_
  refine g_aload_n C 0 dX11_table_4 rfl rfl ?_
  refine g_getR C K hLx hkx f_11_10 hb_480270 dX11_table_5 ?_
  refine g_callVI C K (c_X9_readFrom W9 hb_480272L hb_480272k hb_480270L hb_480270k  hU) hb_480272L hb_480272k (by decide) rfl v_11_109 rfl ⟨rfl, rfl⟩ ⟨Nat.le_of_ble_eq_true rfl, Nat.le_of_ble_eq_true rfl⟩ (Nat.le_of_ble_eq_true rfl) ⟨Nat.le_of_ble_eq_true rfl, Nat.le_of_ble_eq_true rfl⟩ dX11_table_8 rfl (st := []) (fun x_480275 I_480276 J_480277 h_480278 => ?_)
  obtain ⟨hUI_480276, hFI_480276, hGJ_480277, rx_480275⟩ := h_480278
  have hF_480279 := fq_tr hF hFI_480276 (by decide)
  have hG_480280 := fq_tr hG hGJ_480277 (by decide)
  refine g_istore_n C dX11_table_11 rfl (by decide) (lo2 := [(1, .int x_480275), (0, .ref x)]) rfl ?_
  refine g_aload_n C 1 dX11_table_12 rfl rfl ?_
  refine g_getR C K hLx hkx f_11_10 hb_480270 dX11_table_13 ?_
  refine g_iconst C (v := 0) dX11_table_16 (by decide) ?_
  refine h_putI C K hb_480270L hb_480270k f_11_102 p_10_5 dX11_table_17 (fun I_480281 hI_480281 => ?_)
  have hU_480282 := iv_put W9 hUI_480276 hI_480281 (ro_o hb_480270k (by decide)) (lo := 0) (hi := 940) (rfl) (rg_w rc_0 (by decide) (by decide)) rfl
  have hF_480283 := fq_puto hF_480279 hI_480281 hb_480270k (by decide) (by decide)
  refine g_aload_n C 1 dX11_table_20 rfl rfl ?_
  refine g_getR C K hLx hkx f_11_10 hb_480270 dX11_table_21 ?_
  obtain ⟨x_480284, hx_480284, rx_480284⟩ := ex_get (I := I_480281) (a := b_480270) (j := 11) (lo := (-2147483648)) (hi := 2147483647) hU_480282.1 hb_480270L (ro_o hb_480270k (by decide)) rfl
  refine g_getI C K hb_480270L hb_480270k f_11_113 (v := x_480284) hx_480284 dX11_table_24 ?_
  refine g_if_eq C (tgt := 40) dX11_table_27 (by decide) (fun h_480285 => ?_) (fun h_480285 => ?_)
  · skip
    have r_480286 := (⟨(eq_rg (h_480285) rc_0).1, (eq_rg (h_480285) rc_0).2⟩ : Rg 0 0 x_480284)
    refine g_aload_n C 1 dX11_table_40 rfl rfl ?_
    refine g_getR C K hLx hkx f_11_19 hb_480271 dX11_table_41 ?_
    refine g_aload_n C 1 dX11_table_44 rfl rfl ?_
    refine g_getR C K hLx hkx f_11_45 hb_480272 dX11_table_45 ?_
    refine g_getR C K hb_480272L hb_480272k f_11_119 hb_480273 dX11_table_48 ?_
    refine g_callVV C K (c_X8_become W9 hb_480271L hb_480271k hb_480273L hb_480273k  hU_480282) hb_480271L hb_480271k (by decide) rfl v_11_120 rfl ⟨rfl, rfl⟩ ⟨Nat.le_of_ble_eq_true rfl, Nat.le_of_ble_eq_true rfl⟩ (Nat.le_of_ble_eq_true rfl) ⟨Nat.le_of_ble_eq_true rfl, Nat.le_of_ble_eq_true rfl⟩ dX11_table_51 rfl (st := []) (fun I_480288 J_480289 h_480290 => ?_)
    obtain ⟨hUI_480288, hFI_480288, hGJ_480289⟩ := h_480290
    have hF_480291 := fq_tr hF_480283 hFI_480288 (by decide)
    have hG_480292 := fq_tr hG_480280 hGJ_480289 (by decide)
    refine g_aload_n C 1 dX11_table_54 rfl rfl ?_
    refine g_getR C K hLx hkx f_11_28 hb_480268 dX11_table_55 ?_
    refine g_aload_n C 1 dX11_table_58 rfl rfl ?_
    refine g_getR C K hLx hkx f_11_45 hb_480272 dX11_table_59 ?_
    refine g_getR C K hb_480272L hb_480272k f_11_123 hb_480274 dX11_table_62 ?_
    refine g_callVV C K (c_X1_become W9 hb_480268L hb_480268k hb_480274L hb_480274k  hUI_480288) hb_480268L hb_480268k (by decide) rfl v_11_126 rfl ⟨rfl, rfl⟩ ⟨Nat.le_of_ble_eq_true rfl, Nat.le_of_ble_eq_true rfl⟩ (Nat.le_of_ble_eq_true rfl) ⟨Nat.le_of_ble_eq_true rfl, Nat.le_of_ble_eq_true rfl⟩ dX11_table_65 rfl (st := []) (fun I_480294 J_480295 h_480296 => ?_)
    obtain ⟨hUI_480294, hFI_480294, hGJ_480295⟩ := h_480296
    have hF_480297 := fq_tr hF_480291 hFI_480294 (by decide)
    have hG_480298 := fq_tr hG_480292 hGJ_480295 (by decide)
    refine g_aload_n C 1 dX11_table_68 rfl rfl ?_
    refine g_getR C K hLx hkx f_11_59 hb_480269 dX11_table_69 ?_
    refine g_callVV C K (c_X7_forget W9 hb_480269L hb_480269k   hUI_480294) hb_480269L hb_480269k (by decide) rfl v_11_129 rfl ⟨rfl, rfl⟩ ⟨Nat.le_of_ble_eq_true rfl, Nat.le_of_ble_eq_true rfl⟩ (Nat.le_of_ble_eq_true rfl) ⟨Nat.le_of_ble_eq_true rfl, Nat.le_of_ble_eq_true rfl⟩ dX11_table_72 rfl (st := []) (fun I_480300 J_480301 h_480302 => ?_)
    obtain ⟨hUI_480300, hFI_480300, hGJ_480301⟩ := h_480302
    have hF_480303 := fq_tr hF_480297 hFI_480300 (by decide)
    have hG_480304 := fq_tr hG_480298 hGJ_480301 (by decide)
    refine g_aload_n C 1 dX11_table_75 rfl rfl ?_
    refine g_getR C K hLx hkx f_11_38 hb_480267 dX11_table_76 ?_
    refine g_callVV C K (c_X5_forget W9 hb_480267L hb_480267k   hUI_480300) hb_480267L hb_480267k (by decide) rfl v_11_132 rfl ⟨rfl, rfl⟩ ⟨Nat.le_of_ble_eq_true rfl, Nat.le_of_ble_eq_true rfl⟩ (Nat.le_of_ble_eq_true rfl) ⟨Nat.le_of_ble_eq_true rfl, Nat.le_of_ble_eq_true rfl⟩ dX11_table_79 rfl (st := []) (fun I_480306 J_480307 h_480308 => ?_)
    obtain ⟨hUI_480306, hFI_480306, hGJ_480307⟩ := h_480308
    have hF_480309 := fq_tr hF_480303 hFI_480306 (by decide)
    have hG_480310 := fq_tr hG_480304 hGJ_480307 (by decide)
    refine g_iload_n C 0 dX11_table_82 rfl rfl ?_
    exact g_zret (ty := .int) (r := x_480275) B K rfl (rfl) ⟨hUI_480306, hF_480309, hG_480310, rg_all _⟩ dX11_table_83
  · skip
    have n_480311 : ¬ x_480284 = 0 := h_480285
    refine g_iconst C (v := (-1)) dX11_table_30 (by decide) ?_
    refine g_aload_n C 1 dX11_table_31 rfl rfl ?_
    refine g_getR C K hLx hkx f_11_10 hb_480270 dX11_table_32 ?_
    obtain ⟨x_480312, hx_480312, rx_480312⟩ := ex_get (I := I_480281) (a := b_480270) (j := 12) (lo := (-2147483648)) (hi := 2147483647) hU_480282.1 hb_480270L (ro_o hb_480270k (by decide)) rfl
    refine g_getI C K hb_480270L hb_480270k f_11_116 (v := x_480312) hx_480312 dX11_table_35 ?_
    obtain ⟨x_480313, hx_480313, rx_480313, tx_480313⟩ := ex_sub (-2147483648) 2147483647 rc_m1 rx_480312 (by decide) (by decide) (by decide) (by decide)
    refine g_isub C (v := x_480313) dX11_table_38 hx_480313 ?_
    exact g_zret (ty := .int) (r := x_480313) B K rfl (rfl) ⟨hU_480282, hF_480283, hG_480280, rx_480313⟩ dX11_table_39
set_option maxRecDepth 100000 in
set_option maxHeartbeats 8000000 in
theorem c_X11_fault {l : Launch} {D : va_G} {cy : Nat → ClassId} {L : List Nat} {κ ln : Nat → Nat} {R : Nat → Nat → Option Nat} {I : Nat → Nat → Int32} {J : Nat → Nat → Int64} {ow : Nat → Nat × Nat} (W9 : ∀ a ∈ L, Shp L κ ln R ow a) {x : Nat} (hLx : x ∈ L) (hkx : κ x = 11) (hU : Iv L κ R ow I) : CtI l yX11_fault cX11_fault 1 (some .int) { frames := 0, cells := 0, slots := 0, locals := 0 } D cy L κ ln R I J [.ref x] (fun r I2 J2 => I = I2 ∧ J = J2 ∧ Rg (-2147483648) 2147483647 r) := by
  refine CtI.of (by decide +kernel) (Nat.le_of_ble_eq_true rfl) ?_
  intro p e s m below meth c B K
  have C := B.1
  obtain ⟨b_480318, hb_480318, hb_480318L, hb_480318k⟩ := shp_o (W9 x hLx) hkx 0 10 rfl (by decide)
  refine g_lo (is := [0]) (lo2 := [(0, .ref x)]) rfl ?_
  refine g_aload_n C 0 dX11_fault_0 rfl rfl ?_
  refine g_getR C K hLx hkx f_11_10 hb_480318 dX11_fault_1 ?_
  obtain ⟨x_480319, hx_480319, rx_480319⟩ := ex_get (I := I) (a := b_480318) (j := 11) (lo := (-2147483648)) (hi := 2147483647) hU.1 hb_480318L (ro_o hb_480318k (by decide)) rfl
  refine g_getI C K hb_480318L hb_480318k f_11_113 (v := x_480319) hx_480319 dX11_fault_4 ?_
  exact g_zret (ty := .int) (r := x_480319) B K rfl (rfl) ⟨rfl, rfl, rx_480319⟩ dX11_fault_7
set_option maxRecDepth 100000 in
set_option maxHeartbeats 8000000 in
theorem c_X8_hasDish {l : Launch} {D : va_G} {cy : Nat → ClassId} {L : List Nat} {κ ln : Nat → Nat} {R : Nat → Nat → Option Nat} {I : Nat → Nat → Int32} {J : Nat → Nat → Int64} {ow : Nat → Nat × Nat} (W9 : ∀ a ∈ L, Shp L κ ln R ow a) {x : Nat} (hLx : x ∈ L) (hkx : κ x = 8) (a0 : Int32) (hU : Iv L κ R ow I) : CtI l yX8_hasDish cX8_hasDish 2 (some .boolean) { frames := 0, cells := 0, slots := 0, locals := 0 } D cy L κ ln R I J [.ref x, .int a0] (fun r I2 J2 => I = I2 ∧ J = J2 ∧ Rg 0 1 r ∧ (¬ r = 0 → Rg 0 5 a0)) := by
  refine CtI.of (by decide +kernel) (Nat.le_of_ble_eq_true rfl) ?_
  intro p e s m below meth c B K
  have C := B.1
  refine g_lo (is := [0, 1]) (lo2 := [(0, .ref x), (1, .int a0)]) rfl ?_
  refine g_iload_n C 1 dX8_hasDish_0 rfl rfl ?_
  refine g_if_lt C (tgt := 16) dX8_hasDish_1 (by decide) (fun h_480334 => ?_) (fun h_480334 => ?_)
  · skip
    have r_480335 := lt_l (hi := (-1)) (h_480334) (rg_all a0) rc_0 (by decide)
    refine g_iconst C (v := 0) dX8_hasDish_16 (by decide) ?_
    exact g_zret (ty := .boolean) (r := 0) B K rfl (rfl) ⟨rfl, rfl, rg_w rc_0 (by decide) (by decide), (fun q => absurd rfl q)⟩ dX8_hasDish_17
  · skip
    have r_480336 := le_r (nlt h_480334) rc_0 (rg_all a0)
    refine g_iload_n C 1 dX8_hasDish_4 rfl rfl ?_
    refine g_aload_n C 0 dX8_hasDish_5 rfl rfl ?_
    obtain ⟨x_480337, hx_480337, rx_480337⟩ := ex_get (I := I) (a := x) (j := 6) (lo := 0) (hi := 6) hU.1 hLx (ro_o hkx (by decide)) rfl
    refine g_getI C K hLx hkx f_8_32 (v := x_480337) hx_480337 dX8_hasDish_6 ?_
    refine g_icmp_ge C (tgt := 16) dX8_hasDish_9 (by decide) (fun h_480338 => ?_) (fun h_480338 => ?_)
    · skip
      refine g_iconst C (v := 0) dX8_hasDish_16 (by decide) ?_
      exact g_zret (ty := .boolean) (r := 0) B K rfl (rfl) ⟨rfl, rfl, rg_w rc_0 (by decide) (by decide), (fun q => absurd rfl q)⟩ dX8_hasDish_17
    · skip
      have r_480339 := lt_l (hi := 5) (nle h_480338) r_480336 rx_480337 (by decide)
      have r_480340 := lt_r (lo := 1) (nle h_480338) r_480336 rx_480337 (by decide)
      refine g_iconst C (v := 1) dX8_hasDish_12 (by decide) ?_
      refine g_goto C (tgt := 17) dX8_hasDish_13 (by decide) ?_
      exact g_zret (ty := .boolean) (r := 1) B K rfl (rfl) ⟨rfl, rfl, rg_w rc_1 (by decide) (by decide), (fun _ => r_480339)⟩ dX8_hasDish_17
set_option maxRecDepth 100000 in
set_option maxHeartbeats 8000000 in
theorem c_X8_hasPerson {l : Launch} {D : va_G} {cy : Nat → ClassId} {L : List Nat} {κ ln : Nat → Nat} {R : Nat → Nat → Option Nat} {I : Nat → Nat → Int32} {J : Nat → Nat → Int64} {ow : Nat → Nat × Nat} (W9 : ∀ a ∈ L, Shp L κ ln R ow a) {x : Nat} (hLx : x ∈ L) (hkx : κ x = 8) (a0 : Int32) (hU : Iv L κ R ow I) : CtI l yX8_hasPerson cX8_hasPerson 2 (some .boolean) { frames := 0, cells := 0, slots := 0, locals := 0 } D cy L κ ln R I J [.ref x, .int a0] (fun r I2 J2 => I = I2 ∧ J = J2 ∧ Rg 0 1 r ∧ (¬ r = 0 → Rg 0 6 a0)) := by
  refine CtI.of (by decide +kernel) (Nat.le_of_ble_eq_true rfl) ?_
  intro p e s m below meth c B K
  have C := B.1
  refine g_lo (is := [0, 1]) (lo2 := [(0, .ref x), (1, .int a0)]) rfl ?_
  refine g_iload_n C 1 dX8_hasPerson_0 rfl rfl ?_
  refine g_if_lt C (tgt := 16) dX8_hasPerson_1 (by decide) (fun h_480355 => ?_) (fun h_480355 => ?_)
  · skip
    have r_480356 := lt_l (hi := (-1)) (h_480355) (rg_all a0) rc_0 (by decide)
    refine g_iconst C (v := 0) dX8_hasPerson_16 (by decide) ?_
    exact g_zret (ty := .boolean) (r := 0) B K rfl (rfl) ⟨rfl, rfl, rg_w rc_0 (by decide) (by decide), (fun q => absurd rfl q)⟩ dX8_hasPerson_17
  · skip
    have r_480357 := le_r (nlt h_480355) rc_0 (rg_all a0)
    refine g_iload_n C 1 dX8_hasPerson_4 rfl rfl ?_
    refine g_aload_n C 0 dX8_hasPerson_5 rfl rfl ?_
    obtain ⟨x_480358, hx_480358, rx_480358⟩ := ex_get (I := I) (a := x) (j := 5) (lo := 0) (hi := 7) hU.1 hLx (ro_o hkx (by decide)) rfl
    refine g_getI C K hLx hkx f_8_28 (v := x_480358) hx_480358 dX8_hasPerson_6 ?_
    refine g_icmp_ge C (tgt := 16) dX8_hasPerson_9 (by decide) (fun h_480359 => ?_) (fun h_480359 => ?_)
    · skip
      refine g_iconst C (v := 0) dX8_hasPerson_16 (by decide) ?_
      exact g_zret (ty := .boolean) (r := 0) B K rfl (rfl) ⟨rfl, rfl, rg_w rc_0 (by decide) (by decide), (fun q => absurd rfl q)⟩ dX8_hasPerson_17
    · skip
      have r_480360 := lt_l (hi := 6) (nle h_480359) r_480357 rx_480358 (by decide)
      have r_480361 := lt_r (lo := 1) (nle h_480359) r_480357 rx_480358 (by decide)
      refine g_iconst C (v := 1) dX8_hasPerson_12 (by decide) ?_
      refine g_goto C (tgt := 17) dX8_hasPerson_13 (by decide) ?_
      exact g_zret (ty := .boolean) (r := 1) B K rfl (rfl) ⟨rfl, rfl, rg_w rc_1 (by decide) (by decide), (fun _ => r_480360)⟩ dX8_hasPerson_17
set_option maxRecDepth 100000 in
set_option maxHeartbeats 8000000 in
theorem c_X11_plate {l : Launch} {D : va_G} {cy : Nat → ClassId} {L : List Nat} {κ ln : Nat → Nat} {R : Nat → Nat → Option Nat} {I : Nat → Nat → Int32} {J : Nat → Nat → Int64} {ow : Nat → Nat × Nat} (W9 : ∀ a ∈ L, Shp L κ ln R ow a) {x : Nat} (hLx : x ∈ L) (hkx : κ x = 11) (a0 : Int32) (a1 : Int32) (hU : Iv L κ R ow I) : CtI l yX11_plate cX11_plate 3 (some .int) { frames := 1, cells := 0, slots := 0, locals := 22 } D cy L κ ln R I J [.ref x, .int a0, .int a1] (fun r I2 J2 => I = I2 ∧ J = J2 ∧ Rg (-2147483648) 2147483647 r) := by
  refine CtI.of (by decide +kernel) (Nat.le_of_ble_eq_true rfl) ?_
  intro p e s m below meth c B K
  have C := B.1
  obtain ⟨b_480410, hb_480410, hb_480410L, hb_480410k⟩ := shp_o (W9 x hLx) hkx 1 8 rfl (by decide)
  obtain ⟨b_480411, hb_480411, hb_480411L, hb_480411k⟩ := shp_o (W9 x hLx) hkx 2 1 rfl (by decide)
  refine g_lo (is := [0, 1, 2]) (lo2 := [(0, .ref x), (1, .int a0), (2, .int a1)]) rfl ?_
  refine g_aload_n C 0 dX11_plate_0 rfl rfl ?_
  refine g_getR C K hLx hkx f_11_19 hb_480410 dX11_plate_1 ?_
  refine g_iload_n C 1 dX11_plate_4 rfl rfl ?_
  refine g_callVI C K (c_X8_hasPerson W9 hb_480410L hb_480410k a0  hU) hb_480410L hb_480410k (by decide) rfl v_11_133 rfl ⟨rfl, rfl⟩ ⟨Nat.le_of_ble_eq_true rfl, Nat.le_of_ble_eq_true rfl⟩ (Nat.le_of_ble_eq_true rfl) ⟨Nat.le_of_ble_eq_true rfl, Nat.le_of_ble_eq_true rfl⟩ dX11_plate_5 rfl (st := []) (fun x_480412 I_480413 J_480414 h_480415 => ?_)
  obtain ⟨rfl, rfl, rx_480412, ex_480412⟩ := h_480415
  refine g_if_eq C (tgt := 22) dX11_plate_8 (by decide) (fun h_480416 => ?_) (fun h_480416 => ?_)
  · skip
    have r_480417 := (⟨(rx_480412).1, (eq_rg (h_480416) rc_0).2⟩ : Rg 0 0 x_480412)
    refine g_iconst C (v := (-1)) dX11_plate_22 (by decide) ?_
    exact g_zret (ty := .int) (r := (-1)) B K rfl (rfl) ⟨rfl, rfl, rg_all _⟩ dX11_plate_23
  · skip
    have n_480418 : ¬ x_480412 = 0 := h_480416
    have r_480419 := ne_lo (lo := 1) n_480418 rx_480412 rc_0 rfl (by decide)
    have r_480420 := rg_i (rg_all a0) ((ex_480412) (rg_nz r_480419 (by decide))) (lo := 0) (hi := 6) (by decide) (by decide)
    refine g_aload_n C 0 dX11_plate_11 rfl rfl ?_
    refine g_getR C K hLx hkx f_11_19 hb_480410 dX11_plate_12 ?_
    refine g_iload_n C 2 dX11_plate_15 rfl rfl ?_
    refine g_callVI C K (c_X8_hasDish W9 hb_480410L hb_480410k a1  hU) hb_480410L hb_480410k (by decide) rfl v_11_175 rfl ⟨rfl, rfl⟩ ⟨Nat.le_of_ble_eq_true rfl, Nat.le_of_ble_eq_true rfl⟩ (Nat.le_of_ble_eq_true rfl) ⟨Nat.le_of_ble_eq_true rfl, Nat.le_of_ble_eq_true rfl⟩ dX11_plate_16 rfl (st := []) (fun x_480421 I_480422 J_480423 h_480424 => ?_)
    obtain ⟨rfl, rfl, rx_480421, ex_480421⟩ := h_480424
    refine g_if_ne C (tgt := 24) dX11_plate_19 (by decide) (fun h_480425 => ?_) (fun h_480425 => ?_)
    · skip
      have n_480426 : ¬ x_480421 = 0 := h_480425
      have r_480427 := ne_lo (lo := 1) n_480426 rx_480421 rc_0 rfl (by decide)
      have r_480428 := rg_i (rg_all a1) ((ex_480421) (rg_nz r_480427 (by decide))) (lo := 0) (hi := 5) (by decide) (by decide)
      refine g_aload_n C 0 dX11_plate_24 rfl rfl ?_
      refine g_getR C K hLx hkx f_11_28 hb_480411 dX11_plate_25 ?_
      refine g_iload_n C 1 dX11_plate_28 rfl rfl ?_
      refine g_iload_n C 2 dX11_plate_29 rfl rfl ?_
      refine g_callVI C K (c_X1_onPlate W9 hb_480411L hb_480411k a0 a1 (r_480420) (r_480428) hU) hb_480411L hb_480411k (by decide) rfl v_11_178 rfl ⟨rfl, rfl⟩ ⟨Nat.le_of_ble_eq_true rfl, Nat.le_of_ble_eq_true rfl⟩ (Nat.le_of_ble_eq_true rfl) ⟨Nat.le_of_ble_eq_true rfl, Nat.le_of_ble_eq_true rfl⟩ dX11_plate_30 rfl (st := []) (fun x_480429 I_480430 J_480431 h_480432 => ?_)
      obtain ⟨rfl, rfl, rx_480429⟩ := h_480432
      exact g_zret (ty := .int) (r := x_480429) B K rfl (rfl) ⟨rfl, rfl, rx_480429⟩ dX11_plate_33
    · skip
      have r_480433 := (⟨(rx_480421).1, (eq_rg (h_480425) rc_0).2⟩ : Rg 0 0 x_480421)
      refine g_iconst C (v := (-1)) dX11_plate_22 (by decide) ?_
      exact g_zret (ty := .int) (r := (-1)) B K rfl (rfl) ⟨rfl, rfl, rg_all _⟩ dX11_plate_23
set_option maxRecDepth 100000 in
set_option maxHeartbeats 8000000 in
theorem c_X1_onPlatesOf {l : Launch} {D : va_G} {cy : Nat → ClassId} {L : List Nat} {κ ln : Nat → Nat} {R : Nat → Nat → Option Nat} {I : Nat → Nat → Int32} {J : Nat → Nat → Int64} {ow : Nat → Nat × Nat} (W9 : ∀ a ∈ L, Shp L κ ln R ow a) {x : Nat} (hLx : x ∈ L) (hkx : κ x = 1) (a0 : Int32) (a1 : Int32) (ra0 : Rg 0 127 a0) (ra1 : Rg 0 5 a1) (hU : Iv L κ R ow I) : CtI l yX1_onPlatesOf cX1_onPlatesOf 5 (some .int) { frames := 1, cells := 0, slots := 0, locals := 22 } D cy L κ ln R I J [.ref x, .int a0, .int a1] (fun r I2 J2 => I = I2 ∧ J = J2 ∧ Rg (-2147483648) 2147483647 r) := by
  refine CtI.of (by decide +kernel) (Nat.le_of_ble_eq_true rfl) ?_
  intro p e s m below meth c B K
  have C := B.1
  obtain ⟨b_480577, hb_480577, hb_480577L, hb_480577k⟩ := shp_o (W9 x hLx) hkx 0 8 rfl (by decide)
  refine g_lo (is := [0, 1, 2]) (lo2 := [(0, .ref x), (1, .int a0), (2, .int a1)]) rfl ?_
  have l_5 : ∀ (n_5 : Nat) (v_480578 : Int32) (rv_480578 : Rg 0 127 v_480578) (v_480579 : Int32) (rv_480579 : Rg 0 5 v_480579) (v_480580 : Int32) (v_480581 : Int32) (rv_480581 : Rg 0 7 v_480581) (hm_480582 : 7 < (v_480581 : Int32).toInt + (n_5 : Int)), WG p l e { frames := 1, cells := 0, slots := 0, locals := 22 } s m ([.ref x, .int a0, .int a1] : List Value).toArray below meth c 5 0 0 (MQ below (Qi_ D cy L κ ln R (fun r I2 J2 => I = I2 ∧ J = J2 ∧ Rg (-2147483648) 2147483647 r)) ([.ref x, .int a0, .int a1] : List Value).toArray s 0 0 (Al_ L)) D cy (Al_ L) s.heap L κ ln R I J 5 [(0, .ref x), (1, .int v_480578), (2, .int v_480579), (3, .int v_480580), (4, .int v_480581)] [] := by
    intro n_5
    induction n_5 with
    | zero =>
      intro v_480578 rv_480578 v_480579 rv_480579 v_480580 v_480581 rv_480581 hm_480582
      exact ms_0 rv_480581 hm_480582
    | succ n_5 ih_5 =>
      intro v_480578 rv_480578 v_480579 rv_480579 v_480580 v_480581 rv_480581 hm_480582
      have j_36 : ∀ (v_480583 : Int32) (rv_480583 : Rg 0 127 v_480583) (v_480584 : Int32) (rv_480584 : Rg 0 5 v_480584) (v_480585 : Int32) (v_480586 : Int32) (rv_480586 : Rg 0 6 v_480586) (v_480587 : Int32) (rv_480587 : Rg 1 7 v_480587) (q_480588 : I b_480577 5 = v_480587) (hm_480589 : 7 < (v_480586 : Int32).toInt + ((n_5 + 1 : Nat) : Int)), WG p l e { frames := 1, cells := 0, slots := 0, locals := 22 } s m ([.ref x, .int a0, .int a1] : List Value).toArray below meth c 5 0 0 (MQ below (Qi_ D cy L κ ln R (fun r I2 J2 => I = I2 ∧ J = J2 ∧ Rg (-2147483648) 2147483647 r)) ([.ref x, .int a0, .int a1] : List Value).toArray s 0 0 (Al_ L)) D cy (Al_ L) s.heap L κ ln R I J 36 [(0, .ref x), (1, .int v_480583), (2, .int v_480584), (3, .int v_480585), (4, .int v_480586)] [] := by
        intro v_480583 rv_480583 v_480584 rv_480584 v_480585 v_480586 rv_480586 v_480587 rv_480587 q_480588 hm_480589
        obtain ⟨x_480590, hx_480590, rx_480590, tx_480590⟩ := ex_add (y := 1) 1 7 rv_480586 rc_1 (by decide) (by decide) (by decide) (by decide)
        refine g_iinc C dX1_onPlatesOf_36 (k := 4) (v := x_480590) rfl hx_480590 (by decide) (lo2 := [(4, .int x_480590), (0, .ref x), (1, .int v_480583), (2, .int v_480584), (3, .int v_480585)]) rfl ?_
        refine g_goto C (tgt := 5) dX1_onPlatesOf_39 (by decide) ?_
        refine g_lo (is := [1, 2, 3, 4, 0]) (lo2 := [(0, .ref x), (1, .int v_480583), (2, .int v_480584), (3, .int v_480585), (4, .int x_480590)]) rfl ?_
        exact ih_5 v_480583 (rv_480583) v_480584 (rv_480584) v_480585 x_480590 (rg_w rx_480590 (by decide) (by decide)) (ms_1 hm_480589 (ti_k tx_480590 rc_1) (by decide))
      refine g_iload C 4 dX1_onPlatesOf_5 rfl ?_
      refine g_aload_n C 0 dX1_onPlatesOf_7 rfl rfl ?_
      refine g_getR C K hLx hkx f_1_52 hb_480577 dX1_onPlatesOf_8 ?_
      obtain ⟨x_480591, hx_480591, rx_480591⟩ := ex_get (I := I) (a := b_480577) (j := 5) (lo := 0) (hi := 7) hU.1 hb_480577L (ro_o hb_480577k (by decide)) rfl
      refine g_getI C K hb_480577L hb_480577k f_1_68 (v := x_480591) hx_480591 dX1_onPlatesOf_11 ?_
      refine g_icmp_ge C (tgt := 42) dX1_onPlatesOf_14 (by decide) (fun h_480592 => ?_) (fun h_480592 => ?_)
      · skip
        refine g_iload_n C 3 dX1_onPlatesOf_42 rfl rfl ?_
        exact g_zret (ty := .int) (r := v_480580) B K rfl (rfl) ⟨rfl, rfl, (rg_all v_480580)⟩ dX1_onPlatesOf_43
      · skip
        have r_480593 := lt_l (hi := 6) (nle h_480592) rv_480581 rx_480591 (by decide)
        have r_480594 := lt_r (lo := 1) (nle h_480592) rv_480581 rx_480591 (by decide)
        refine g_iload_n C 1 dX1_onPlatesOf_17 rfl rfl ?_
        refine g_iload C 4 dX1_onPlatesOf_18 rfl ?_
        obtain ⟨x_480595, hx_480595, rx_480595⟩ := ex_shr (x := v_480578) (y := v_480581) (b := 127) (rv_480578)
        refine g_ishr C (v := x_480595) dX1_onPlatesOf_20 hx_480595 ?_
        refine g_iconst C (v := 1) dX1_onPlatesOf_21 (by decide) ?_
        obtain ⟨x_480596, hx_480596, rx_480596⟩ := ex_andr (x := x_480595) (y := 1) (b := 1) (rg_w rc_1 (by decide) (by decide))
        refine g_iand C (v := x_480596) dX1_onPlatesOf_22 hx_480596 ?_
        refine g_if_eq C (tgt := 36) dX1_onPlatesOf_23 (by decide) (fun h_480597 => ?_) (fun h_480597 => ?_)
        · skip
          have r_480598 := (⟨(rx_480596).1, (eq_rg (h_480597) rc_0).2⟩ : Rg 0 0 x_480596)
          refine g_lo (is := [0, 1, 2, 3, 4]) (lo2 := [(0, .ref x), (1, .int v_480578), (2, .int v_480579), (3, .int v_480580), (4, .int v_480581)]) rfl ?_
          exact j_36 v_480578 (rv_480578) v_480579 (rv_480579) v_480580 v_480581 (r_480593) x_480591 (r_480594) hx_480591 hm_480582
        · skip
          have n_480599 : ¬ x_480596 = 0 := h_480597
          have r_480600 := ne_lo (lo := 1) n_480599 rx_480596 rc_0 rfl (by decide)
          refine g_iload_n C 3 dX1_onPlatesOf_26 rfl rfl ?_
          refine g_aload_n C 0 dX1_onPlatesOf_27 rfl rfl ?_
          refine g_iload C 4 dX1_onPlatesOf_28 rfl ?_
          refine g_iload_n C 2 dX1_onPlatesOf_30 rfl rfl ?_
          refine g_callVI C K (c_X1_onPlate W9 hLx hkx v_480581 v_480579 (r_480593) (rv_480579) hU) hLx hkx (by decide) rfl v_1_71 rfl ⟨rfl, rfl⟩ ⟨Nat.le_of_ble_eq_true rfl, Nat.le_of_ble_eq_true rfl⟩ (Nat.le_of_ble_eq_true rfl) ⟨Nat.le_of_ble_eq_true rfl, Nat.le_of_ble_eq_true rfl⟩ dX1_onPlatesOf_31 rfl (st := [.int v_480580]) (fun x_480601 I_480602 J_480603 h_480604 => ?_)
          obtain ⟨rfl, rfl, rx_480601⟩ := h_480604
          obtain ⟨x_480605, hx_480605, rx_480605⟩ := ex_any (z0 := v_480580 + x_480601)
          refine g_iadd C (v := x_480605) dX1_onPlatesOf_34 hx_480605 ?_
          refine g_istore_n C dX1_onPlatesOf_35 rfl (by decide) (lo2 := [(3, .int x_480605), (0, .ref x), (1, .int v_480578), (2, .int v_480579), (4, .int v_480581)]) rfl ?_
          refine g_lo (is := [1, 2, 3, 0, 4]) (lo2 := [(0, .ref x), (1, .int v_480578), (2, .int v_480579), (3, .int x_480605), (4, .int v_480581)]) rfl ?_
          exact j_36 v_480578 (rv_480578) v_480579 (rv_480579) x_480605 v_480581 (r_480593) x_480591 (r_480594) hx_480591 hm_480582
  refine g_iconst C (v := 0) dX1_onPlatesOf_0 (by decide) ?_
  refine g_istore_n C dX1_onPlatesOf_1 rfl (by decide) (lo2 := [(3, .int 0), (0, .ref x), (1, .int a0), (2, .int a1)]) rfl ?_
  refine g_iconst C (v := 0) dX1_onPlatesOf_2 (by decide) ?_
  refine g_istore C dX1_onPlatesOf_3 (by decide) (lo2 := [(4, .int 0), (3, .int 0), (0, .ref x), (1, .int a0), (2, .int a1)]) rfl ?_
  refine g_lo (is := [2, 3, 4, 1, 0]) (lo2 := [(0, .ref x), (1, .int a0), (2, .int a1), (3, .int 0), (4, .int 0)]) rfl ?_
  exact l_5 8 a0 (ra0) a1 (ra1) 0 0 (rg_w rc_0 (by decide) (by decide)) (ms_s (a := 0) (b := 7) (N := 8) (rg_w rc_0 (by decide) (by decide)) (by decide))
set_option maxRecDepth 100000 in
set_option maxHeartbeats 8000000 in
theorem c_X8_everybody {l : Launch} {D : va_G} {cy : Nat → ClassId} {L : List Nat} {κ ln : Nat → Nat} {R : Nat → Nat → Option Nat} {I : Nat → Nat → Int32} {J : Nat → Nat → Int64} {ow : Nat → Nat × Nat} (W9 : ∀ a ∈ L, Shp L κ ln R ow a) {x : Nat} (hLx : x ∈ L) (hkx : κ x = 8) (hU : Iv L κ R ow I) : CtI l yX8_everybody cX8_everybody 1 (some .int) { frames := 0, cells := 0, slots := 0, locals := 0 } D cy L κ ln R I J [.ref x] (fun r I2 J2 => I = I2 ∧ J = J2 ∧ Rg 0 127 r) := by
  refine CtI.of (by decide +kernel) (Nat.le_of_ble_eq_true rfl) ?_
  intro p e s m below meth c B K
  have C := B.1
  refine g_lo (is := [0]) (lo2 := [(0, .ref x)]) rfl ?_
  refine g_iconst C (v := 1) dX8_everybody_0 (by decide) ?_
  refine g_aload_n C 0 dX8_everybody_1 rfl rfl ?_
  obtain ⟨x_480612, hx_480612, rx_480612⟩ := ex_get (I := I) (a := x) (j := 5) (lo := 0) (hi := 7) hU.1 hLx (ro_o hkx (by decide)) rfl
  refine g_getI C K hLx hkx f_8_28 (v := x_480612) hx_480612 dX8_everybody_2 ?_
  obtain ⟨x_480613, hx_480613, rx_480613⟩ := ex_shl (x := 1) (y := x_480612) 7 128 rfl (rx_480612) (by decide)
  refine g_ishl C (v := x_480613) dX8_everybody_5 hx_480613 ?_
  refine g_iconst C (v := 1) dX8_everybody_6 (by decide) ?_
  obtain ⟨x_480614, hx_480614, rx_480614, tx_480614⟩ := ex_sub 0 127 rx_480613 rc_1 (by decide) (by decide) (by decide) (by decide)
  refine g_isub C (v := x_480614) dX8_everybody_7 hx_480614 ?_
  exact g_zret (ty := .int) (r := x_480614) B K rfl (rfl) ⟨rfl, rfl, rx_480614⟩ dX8_everybody_8
set_option maxRecDepth 100000 in
set_option maxHeartbeats 8000000 in
theorem c_X11_dish {l : Launch} {D : va_G} {cy : Nat → ClassId} {L : List Nat} {κ ln : Nat → Nat} {R : Nat → Nat → Option Nat} {I : Nat → Nat → Int32} {J : Nat → Nat → Int64} {ow : Nat → Nat × Nat} (W9 : ∀ a ∈ L, Shp L κ ln R ow a) {x : Nat} (hLx : x ∈ L) (hkx : κ x = 11) (a0 : Int32) (a1 : Int32) (hU : Iv L κ R ow I) : CtI l yX11_dish cX11_dish 3 (some .int) { frames := 2, cells := 0, slots := 0, locals := 46 } D cy L κ ln R I J [.ref x, .int a0, .int a1] (fun r I2 J2 => I = I2 ∧ J = J2 ∧ Rg (-2147483648) 2147483647 r) := by
  refine CtI.of (by decide +kernel) (Nat.le_of_ble_eq_true rfl) ?_
  intro p e s m below meth c B K
  have C := B.1
  obtain ⟨b_480677, hb_480677, hb_480677L, hb_480677k⟩ := shp_o (W9 x hLx) hkx 1 8 rfl (by decide)
  obtain ⟨b_480678, hb_480678, hb_480678L, hb_480678k⟩ := shp_o (W9 x hLx) hkx 2 1 rfl (by decide)
  obtain ⟨b_480679, hb_480679, hb_480679L, hb_480679k, hb_480679n, hb_480679o⟩ := shp_a (W9 b_480678 hb_480678L) hb_480678k 1 14 6 rfl (by decide)
  obtain ⟨b_480680, hb_480680, hb_480680L, hb_480680k, hb_480680n, hb_480680o⟩ := shp_a (W9 b_480677 hb_480677L) hb_480677k 4 14 6 rfl (by decide)
  refine g_lo (is := [0, 1, 2]) (lo2 := [(0, .ref x), (1, .int a0), (2, .int a1)]) rfl ?_
  refine g_aload_n C 0 dX11_dish_0 rfl rfl ?_
  refine g_getR C K hLx hkx f_11_19 hb_480677 dX11_dish_1 ?_
  refine g_iload_n C 1 dX11_dish_4 rfl rfl ?_
  refine g_callVI C K (c_X8_hasDish W9 hb_480677L hb_480677k a0  hU) hb_480677L hb_480677k (by decide) rfl v_11_175 rfl ⟨rfl, rfl⟩ ⟨Nat.le_of_ble_eq_true rfl, Nat.le_of_ble_eq_true rfl⟩ (Nat.le_of_ble_eq_true rfl) ⟨Nat.le_of_ble_eq_true rfl, Nat.le_of_ble_eq_true rfl⟩ dX11_dish_5 rfl (st := []) (fun x_480681 I_480682 J_480683 h_480684 => ?_)
  obtain ⟨rfl, rfl, rx_480681, ex_480681⟩ := h_480684
  refine g_if_ne C (tgt := 13) dX11_dish_8 (by decide) (fun h_480685 => ?_) (fun h_480685 => ?_)
  · skip
    have n_480686 : ¬ x_480681 = 0 := h_480685
    have r_480687 := ne_lo (lo := 1) n_480686 rx_480681 rc_0 rfl (by decide)
    have r_480688 := rg_i (rg_all a0) ((ex_480681) (rg_nz r_480687 (by decide))) (lo := 0) (hi := 5) (by decide) (by decide)
    refine g_iload_n C 2 dX11_dish_13 rfl rfl ?_
    by_cases c_480689 : a1.toInt = 0
    · skip
      have r_480690 := rg_of (a := 0) (b := 0) 0 c_480689 (by decide) (by decide)
      refine g_tableIn C (tgt := 40) dX11_dish_14 (by omega) (by omega) (off := 26) (by rw [c_480689]; rfl) (by decide) ?_
      refine g_aload_n C 0 dX11_dish_40 rfl rfl ?_
      refine g_getR C K hLx hkx f_11_28 hb_480678 dX11_dish_41 ?_
      refine g_getR C K hb_480678L hb_480678k f_11_182 hb_480679 dX11_dish_44 ?_
      refine g_iload_n C 1 dX11_dish_47 rfl rfl ?_
      obtain ⟨x_480691, hx_480691, rx_480691⟩ := ex_get (I := I) (a := b_480679) (j := a0.toNatClampNeg) (lo := (-2147483648)) (hi := 2147483647) hU.1 hb_480679L (ro_a hb_480679k (by decide) hb_480679o hb_480678k rfl) (rfl)
      refine h_iald C K hb_480679L hb_480679k (v := x_480691) (a0.toNatClampNeg) (rfl) (ix_0 r_480688 (by decide)) (ix_lt r_480688 (by decide) hb_480679n (by decide)) hx_480691 dX11_dish_48 ?_
      exact g_zret (ty := .int) (r := x_480691) B K rfl (rfl) ⟨rfl, rfl, rx_480691⟩ dX11_dish_49
    by_cases c_480692 : a1.toInt = 1
    · skip
      have r_480693 := rg_of (a := 1) (b := 1) 1 c_480692 (by decide) (by decide)
      refine g_tableIn C (tgt := 50) dX11_dish_14 (by omega) (by omega) (off := 36) (by rw [c_480692]; rfl) (by decide) ?_
      refine g_aload_n C 0 dX11_dish_50 rfl rfl ?_
      refine g_getR C K hLx hkx f_11_19 hb_480677 dX11_dish_51 ?_
      refine g_getR C K hb_480677L hb_480677k f_11_185 hb_480680 dX11_dish_54 ?_
      refine g_iload_n C 1 dX11_dish_57 rfl rfl ?_
      obtain ⟨x_480694, hx_480694, rx_480694⟩ := ex_get (I := I) (a := b_480680) (j := a0.toNatClampNeg) (lo := (-2147483648)) (hi := 2147483647) hU.1 hb_480680L (ro_a hb_480680k (by decide) hb_480680o hb_480677k rfl) (rfl)
      refine h_iald C K hb_480680L hb_480680k (v := x_480694) (a0.toNatClampNeg) (rfl) (ix_0 r_480688 (by decide)) (ix_lt r_480688 (by decide) hb_480680n (by decide)) hx_480694 dX11_dish_58 ?_
      exact g_zret (ty := .int) (r := x_480694) B K rfl (rfl) ⟨rfl, rfl, rx_480694⟩ dX11_dish_59
    by_cases c_480695 : a1.toInt = 2
    · skip
      have r_480696 := rg_of (a := 2) (b := 2) 2 c_480695 (by decide) (by decide)
      refine g_tableIn C (tgt := 60) dX11_dish_14 (by omega) (by omega) (off := 46) (by rw [c_480695]; rfl) (by decide) ?_
      refine g_aload_n C 0 dX11_dish_60 rfl rfl ?_
      refine g_getR C K hLx hkx f_11_28 hb_480678 dX11_dish_61 ?_
      refine g_aload_n C 0 dX11_dish_64 rfl rfl ?_
      refine g_getR C K hLx hkx f_11_19 hb_480677 dX11_dish_65 ?_
      refine g_callVI C K (c_X8_everybody W9 hb_480677L hb_480677k   hU) hb_480677L hb_480677k (by decide) rfl v_11_188 rfl ⟨rfl, rfl⟩ ⟨Nat.le_of_ble_eq_true rfl, Nat.le_of_ble_eq_true rfl⟩ (Nat.le_of_ble_eq_true rfl) ⟨Nat.le_of_ble_eq_true rfl, Nat.le_of_ble_eq_true rfl⟩ dX11_dish_68 rfl (st := [.ref b_480678]) (fun x_480697 I_480698 J_480699 h_480700 => ?_)
      obtain ⟨rfl, rfl, rx_480697⟩ := h_480700
      refine g_iload_n C 1 dX11_dish_71 rfl rfl ?_
      refine g_callVI C K (c_X1_onPlatesOf W9 hb_480678L hb_480678k x_480697 a0 (rx_480697) (r_480688) hU) hb_480678L hb_480678k (by decide) rfl v_11_192 rfl ⟨rfl, rfl⟩ ⟨Nat.le_of_ble_eq_true rfl, Nat.le_of_ble_eq_true rfl⟩ (Nat.le_of_ble_eq_true rfl) ⟨Nat.le_of_ble_eq_true rfl, Nat.le_of_ble_eq_true rfl⟩ dX11_dish_72 rfl (st := []) (fun x_480701 I_480702 J_480703 h_480704 => ?_)
      obtain ⟨rfl, rfl, rx_480701⟩ := h_480704
      exact g_zret (ty := .int) (r := x_480701) B K rfl (rfl) ⟨rfl, rfl, rx_480701⟩ dX11_dish_75
    obtain ⟨q_4807051, q_4807052⟩ := (rg_all a1)
    refine g_tableOut C (tgt := 76) dX11_dish_14 (by omega) (by decide) ?_
    refine g_iconst C (v := (-1)) dX11_dish_76 (by decide) ?_
    exact g_zret (ty := .int) (r := (-1)) B K rfl (rfl) ⟨rfl, rfl, rg_all _⟩ dX11_dish_77
  · skip
    have r_480706 := (⟨(rx_480681).1, (eq_rg (h_480685) rc_0).2⟩ : Rg 0 0 x_480681)
    refine g_iconst C (v := (-1)) dX11_dish_11 (by decide) ?_
    exact g_zret (ty := .int) (r := (-1)) B K rfl (rfl) ⟨rfl, rfl, rg_all _⟩ dX11_dish_12
