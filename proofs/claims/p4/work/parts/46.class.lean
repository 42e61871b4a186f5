theorem dX11_dish_0 : decode cX11_dish 0 = .ok (.aload_n 0, 1) := by decide +kernel
theorem dX11_dish_1 : decode cX11_dish 1 = .ok (.getfield 19, 3) := by decide +kernel
theorem dX11_dish_4 : decode cX11_dish 4 = .ok (.iload_n 1, 1) := by decide +kernel
theorem dX11_dish_5 : decode cX11_dish 5 = .ok (.invokevirtual 175, 3) := by decide +kernel
theorem dX11_dish_8 : decode cX11_dish 8 = .ok (.ifCond .ne 5, 3) := by decide +kernel
theorem dX11_dish_11 : decode cX11_dish 11 = .ok (.iconst (-1), 1) := by decide +kernel
theorem dX11_dish_12 : decode cX11_dish 12 = .ok (.ireturn, 1) := by decide +kernel
theorem dX11_dish_13 : decode cX11_dish 13 = .ok (.iload_n 2, 1) := by decide +kernel
theorem dX11_dish_14 : decode cX11_dish 14 = .ok (.tableswitch 62 0 2 #[26, 36, 46], 26) := by decide +kernel
theorem dX11_dish_40 : decode cX11_dish 40 = .ok (.aload_n 0, 1) := by decide +kernel
theorem dX11_dish_41 : decode cX11_dish 41 = .ok (.getfield 28, 3) := by decide +kernel
theorem dX11_dish_44 : decode cX11_dish 44 = .ok (.getfield 182, 3) := by decide +kernel
theorem dX11_dish_47 : decode cX11_dish 47 = .ok (.iload_n 1, 1) := by decide +kernel
theorem dX11_dish_48 : decode cX11_dish 48 = .ok (.iaload, 1) := by decide +kernel
theorem dX11_dish_49 : decode cX11_dish 49 = .ok (.ireturn, 1) := by decide +kernel
theorem dX11_dish_50 : decode cX11_dish 50 = .ok (.aload_n 0, 1) := by decide +kernel
theorem dX11_dish_51 : decode cX11_dish 51 = .ok (.getfield 19, 3) := by decide +kernel
theorem dX11_dish_54 : decode cX11_dish 54 = .ok (.getfield 185, 3) := by decide +kernel
theorem dX11_dish_57 : decode cX11_dish 57 = .ok (.iload_n 1, 1) := by decide +kernel
theorem dX11_dish_58 : decode cX11_dish 58 = .ok (.iaload, 1) := by decide +kernel
theorem dX11_dish_59 : decode cX11_dish 59 = .ok (.ireturn, 1) := by decide +kernel
theorem dX11_dish_60 : decode cX11_dish 60 = .ok (.aload_n 0, 1) := by decide +kernel
theorem dX11_dish_61 : decode cX11_dish 61 = .ok (.getfield 28, 3) := by decide +kernel
theorem dX11_dish_64 : decode cX11_dish 64 = .ok (.aload_n 0, 1) := by decide +kernel
theorem dX11_dish_65 : decode cX11_dish 65 = .ok (.getfield 19, 3) := by decide +kernel
theorem dX11_dish_68 : decode cX11_dish 68 = .ok (.invokevirtual 188, 3) := by decide +kernel
theorem dX11_dish_71 : decode cX11_dish 71 = .ok (.iload_n 1, 1) := by decide +kernel
theorem dX11_dish_72 : decode cX11_dish 72 = .ok (.invokevirtual 192, 3) := by decide +kernel
theorem dX11_dish_75 : decode cX11_dish 75 = .ok (.ireturn, 1) := by decide +kernel
theorem dX11_dish_76 : decode cX11_dish 76 = .ok (.iconst (-1), 1) := by decide +kernel
theorem dX11_dish_77 : decode cX11_dish 77 = .ok (.ireturn, 1) := by decide +kernel
theorem dX11_fault_0 : decode cX11_fault 0 = .ok (.aload_n 0, 1) := by decide +kernel
theorem dX11_fault_1 : decode cX11_fault 1 = .ok (.getfield 10, 3) := by decide +kernel
theorem dX11_fault_4 : decode cX11_fault 4 = .ok (.getfield 113, 3) := by decide +kernel
theorem dX11_fault_7 : decode cX11_fault 7 = .ok (.ireturn, 1) := by decide +kernel
theorem dX11_plate_0 : decode cX11_plate 0 = .ok (.aload_n 0, 1) := by decide +kernel
theorem dX11_plate_1 : decode cX11_plate 1 = .ok (.getfield 19, 3) := by decide +kernel
theorem dX11_plate_4 : decode cX11_plate 4 = .ok (.iload_n 1, 1) := by decide +kernel
theorem dX11_plate_5 : decode cX11_plate 5 = .ok (.invokevirtual 133, 3) := by decide +kernel
theorem dX11_plate_8 : decode cX11_plate 8 = .ok (.ifCond .eq 14, 3) := by decide +kernel
theorem dX11_plate_11 : decode cX11_plate 11 = .ok (.aload_n 0, 1) := by decide +kernel
theorem dX11_plate_12 : decode cX11_plate 12 = .ok (.getfield 19, 3) := by decide +kernel
theorem dX11_plate_15 : decode cX11_plate 15 = .ok (.iload_n 2, 1) := by decide +kernel
theorem dX11_plate_16 : decode cX11_plate 16 = .ok (.invokevirtual 175, 3) := by decide +kernel
theorem dX11_plate_19 : decode cX11_plate 19 = .ok (.ifCond .ne 5, 3) := by decide +kernel
theorem dX11_plate_22 : decode cX11_plate 22 = .ok (.iconst (-1), 1) := by decide +kernel
theorem dX11_plate_23 : decode cX11_plate 23 = .ok (.ireturn, 1) := by decide +kernel
theorem dX11_plate_24 : decode cX11_plate 24 = .ok (.aload_n 0, 1) := by decide +kernel
theorem dX11_plate_25 : decode cX11_plate 25 = .ok (.getfield 28, 3) := by decide +kernel
theorem dX11_plate_28 : decode cX11_plate 28 = .ok (.iload_n 1, 1) := by decide +kernel
theorem dX11_plate_29 : decode cX11_plate 29 = .ok (.iload_n 2, 1) := by decide +kernel
theorem dX11_plate_30 : decode cX11_plate 30 = .ok (.invokevirtual 178, 3) := by decide +kernel
theorem dX11_plate_33 : decode cX11_plate 33 = .ok (.ireturn, 1) := by decide +kernel
theorem dX11_table_0 : decode cX11_table 0 = .ok (.aload_n 0, 1) := by decide +kernel
theorem dX11_table_1 : decode cX11_table 1 = .ok (.getfield 45, 3) := by decide +kernel
theorem dX11_table_4 : decode cX11_table 4 = .ok (.aload_n 0, 1) := by decide +kernel
theorem dX11_table_5 : decode cX11_table 5 = .ok (.getfield 10, 3) := by decide +kernel
theorem dX11_table_8 : decode cX11_table 8 = .ok (.invokevirtual 109, 3) := by decide +kernel
theorem dX11_table_11 : decode cX11_table 11 = .ok (.istore_n 1, 1) := by decide +kernel
theorem dX11_table_12 : decode cX11_table 12 = .ok (.aload_n 0, 1) := by decide +kernel
theorem dX11_table_13 : decode cX11_table 13 = .ok (.getfield 10, 3) := by decide +kernel
theorem dX11_table_16 : decode cX11_table 16 = .ok (.iconst 0, 1) := by decide +kernel
theorem dX11_table_17 : decode cX11_table 17 = .ok (.putfield 102, 3) := by decide +kernel
theorem dX11_table_20 : decode cX11_table 20 = .ok (.aload_n 0, 1) := by decide +kernel
theorem dX11_table_21 : decode cX11_table 21 = .ok (.getfield 10, 3) := by decide +kernel
theorem dX11_table_24 : decode cX11_table 24 = .ok (.getfield 113, 3) := by decide +kernel
theorem dX11_table_27 : decode cX11_table 27 = .ok (.ifCond .eq 13, 3) := by decide +kernel
theorem dX11_table_30 : decode cX11_table 30 = .ok (.iconst (-1), 1) := by decide +kernel
theorem dX11_table_31 : decode cX11_table 31 = .ok (.aload_n 0, 1) := by decide +kernel
theorem dX11_table_32 : decode cX11_table 32 = .ok (.getfield 10, 3) := by decide +kernel
theorem dX11_table_35 : decode cX11_table 35 = .ok (.getfield 116, 3) := by decide +kernel
theorem dX11_table_38 : decode cX11_table 38 = .ok (.isub, 1) := by decide +kernel
theorem dX11_table_39 : decode cX11_table 39 = .ok (.ireturn, 1) := by decide +kernel
theorem dX11_table_40 : decode cX11_table 40 = .ok (.aload_n 0, 1) := by decide +kernel
theorem dX11_table_41 : decode cX11_table 41 = .ok (.getfield 19, 3) := by decide +kernel
theorem dX11_table_44 : decode cX11_table 44 = .ok (.aload_n 0, 1) := by decide +kernel
theorem dX11_table_45 : decode cX11_table 45 = .ok (.getfield 45, 3) := by decide +kernel
theorem dX11_table_48 : decode cX11_table 48 = .ok (.getfield 119, 3) := by decide +kernel
theorem dX11_table_51 : decode cX11_table 51 = .ok (.invokevirtual 120, 3) := by decide +kernel
theorem dX11_table_54 : decode cX11_table 54 = .ok (.aload_n 0, 1) := by decide +kernel
theorem dX11_table_55 : decode cX11_table 55 = .ok (.getfield 28, 3) := by decide +kernel
theorem dX11_table_58 : decode cX11_table 58 = .ok (.aload_n 0, 1) := by decide +kernel
theorem dX11_table_59 : decode cX11_table 59 = .ok (.getfield 45, 3) := by decide +kernel
theorem dX11_table_62 : decode cX11_table 62 = .ok (.getfield 123, 3) := by decide +kernel
theorem dX11_table_65 : decode cX11_table 65 = .ok (.invokevirtual 126, 3) := by decide +kernel
theorem dX11_table_68 : decode cX11_table 68 = .ok (.aload_n 0, 1) := by decide +kernel
theorem dX11_table_69 : decode cX11_table 69 = .ok (.getfield 59, 3) := by decide +kernel
theorem dX11_table_72 : decode cX11_table 72 = .ok (.invokevirtual 129, 3) := by decide +kernel
theorem dX11_table_75 : decode cX11_table 75 = .ok (.aload_n 0, 1) := by decide +kernel
theorem dX11_table_76 : decode cX11_table 76 = .ok (.getfield 38, 3) := by decide +kernel
theorem dX11_table_79 : decode cX11_table 79 = .ok (.invokevirtual 132, 3) := by decide +kernel
theorem dX11_table_82 : decode cX11_table 82 = .ok (.iload_n 1, 1) := by decide +kernel
theorem dX11_table_83 : decode cX11_table 83 = .ok (.ireturn, 1) := by decide +kernel
theorem dX1_addToPlate_0 : decode cX1_addToPlate 0 = .ok (.aload_n 0, 1) := by decide +kernel
theorem dX1_addToPlate_1 : decode cX1_addToPlate 1 = .ok (.getfield 15, 3) := by decide +kernel
theorem dX1_addToPlate_4 : decode cX1_addToPlate 4 = .ok (.iload_n 1, 1) := by decide +kernel
theorem dX1_addToPlate_5 : decode cX1_addToPlate 5 = .ok (.bipush 6, 2) := by decide +kernel
theorem dX1_addToPlate_7 : decode cX1_addToPlate 7 = .ok (.imul, 1) := by decide +kernel
theorem dX1_addToPlate_8 : decode cX1_addToPlate 8 = .ok (.iload_n 2, 1) := by decide +kernel
theorem dX1_addToPlate_9 : decode cX1_addToPlate 9 = .ok (.iadd, 1) := by decide +kernel
theorem dX1_addToPlate_10 : decode cX1_addToPlate 10 = .ok (.dup2, 1) := by decide +kernel
theorem dX1_addToPlate_11 : decode cX1_addToPlate 11 = .ok (.iaload, 1) := by decide +kernel
theorem dX1_addToPlate_12 : decode cX1_addToPlate 12 = .ok (.iload_n 3, 1) := by decide +kernel
theorem dX1_addToPlate_13 : decode cX1_addToPlate 13 = .ok (.iadd, 1) := by decide +kernel
theorem dX1_addToPlate_14 : decode cX1_addToPlate 14 = .ok (.iastore, 1) := by decide +kernel
theorem dX1_addToPlate_15 : decode cX1_addToPlate 15 = .ok (.aload_n 0, 1) := by decide +kernel
theorem dX1_addToPlate_16 : decode cX1_addToPlate 16 = .ok (.getfield 18, 3) := by decide +kernel
theorem dX1_addToPlate_19 : decode cX1_addToPlate 19 = .ok (.iload_n 1, 1) := by decide +kernel
theorem dX1_addToPlate_20 : decode cX1_addToPlate 20 = .ok (.dup2, 1) := by decide +kernel
theorem dX1_addToPlate_21 : decode cX1_addToPlate 21 = .ok (.iaload, 1) := by decide +kernel
theorem dX1_addToPlate_22 : decode cX1_addToPlate 22 = .ok (.iload_n 3, 1) := by decide +kernel
theorem dX1_addToPlate_23 : decode cX1_addToPlate 23 = .ok (.iadd, 1) := by decide +kernel
theorem dX1_addToPlate_24 : decode cX1_addToPlate 24 = .ok (.iastore, 1) := by decide +kernel
theorem dX1_addToPlate_25 : decode cX1_addToPlate 25 = .ok (.return_, 1) := by decide +kernel
theorem dX1_onPlate_0 : decode cX1_onPlate 0 = .ok (.aload_n 0, 1) := by decide +kernel
theorem dX1_onPlate_1 : decode cX1_onPlate 1 = .ok (.getfield 15, 3) := by decide +kernel
theorem dX1_onPlate_4 : decode cX1_onPlate 4 = .ok (.iload_n 1, 1) := by decide +kernel
theorem dX1_onPlate_5 : decode cX1_onPlate 5 = .ok (.bipush 6, 2) := by decide +kernel
theorem dX1_onPlate_7 : decode cX1_onPlate 7 = .ok (.imul, 1) := by decide +kernel
theorem dX1_onPlate_8 : decode cX1_onPlate 8 = .ok (.iload_n 2, 1) := by decide +kernel
theorem dX1_onPlate_9 : decode cX1_onPlate 9 = .ok (.iadd, 1) := by decide +kernel
theorem dX1_onPlate_10 : decode cX1_onPlate 10 = .ok (.iaload, 1) := by decide +kernel
theorem dX1_onPlate_11 : decode cX1_onPlate 11 = .ok (.ireturn, 1) := by decide +kernel
theorem dX1_onPlatesOf_0 : decode cX1_onPlatesOf 0 = .ok (.iconst 0, 1) := by decide +kernel
theorem dX1_onPlatesOf_1 : decode cX1_onPlatesOf 1 = .ok (.istore_n 3, 1) := by decide +kernel
theorem dX1_onPlatesOf_2 : decode cX1_onPlatesOf 2 = .ok (.iconst 0, 1) := by decide +kernel
theorem dX1_onPlatesOf_3 : decode cX1_onPlatesOf 3 = .ok (.istore 4, 2) := by decide +kernel
theorem dX1_onPlatesOf_5 : decode cX1_onPlatesOf 5 = .ok (.iload 4, 2) := by decide +kernel
theorem dX1_onPlatesOf_7 : decode cX1_onPlatesOf 7 = .ok (.aload_n 0, 1) := by decide +kernel
theorem dX1_onPlatesOf_8 : decode cX1_onPlatesOf 8 = .ok (.getfield 52, 3) := by decide +kernel
theorem dX1_onPlatesOf_11 : decode cX1_onPlatesOf 11 = .ok (.getfield 68, 3) := by decide +kernel
theorem dX1_onPlatesOf_14 : decode cX1_onPlatesOf 14 = .ok (.if_icmp .ge 28, 3) := by decide +kernel
theorem dX1_onPlatesOf_17 : decode cX1_onPlatesOf 17 = .ok (.iload_n 1, 1) := by decide +kernel
theorem dX1_onPlatesOf_18 : decode cX1_onPlatesOf 18 = .ok (.iload 4, 2) := by decide +kernel
theorem dX1_onPlatesOf_20 : decode cX1_onPlatesOf 20 = .ok (.ishr, 1) := by decide +kernel
theorem dX1_onPlatesOf_21 : decode cX1_onPlatesOf 21 = .ok (.iconst 1, 1) := by decide +kernel
theorem dX1_onPlatesOf_22 : decode cX1_onPlatesOf 22 = .ok (.iand, 1) := by decide +kernel
theorem dX1_onPlatesOf_23 : decode cX1_onPlatesOf 23 = .ok (.ifCond .eq 13, 3) := by decide +kernel
theorem dX1_onPlatesOf_26 : decode cX1_onPlatesOf 26 = .ok (.iload_n 3, 1) := by decide +kernel
theorem dX1_onPlatesOf_27 : decode cX1_onPlatesOf 27 = .ok (.aload_n 0, 1) := by decide +kernel
theorem dX1_onPlatesOf_28 : decode cX1_onPlatesOf 28 = .ok (.iload 4, 2) := by decide +kernel
theorem dX1_onPlatesOf_30 : decode cX1_onPlatesOf 30 = .ok (.iload_n 2, 1) := by decide +kernel
theorem dX1_onPlatesOf_31 : decode cX1_onPlatesOf 31 = .ok (.invokevirtual 71, 3) := by decide +kernel
theorem dX1_onPlatesOf_34 : decode cX1_onPlatesOf 34 = .ok (.iadd, 1) := by decide +kernel
theorem dX1_onPlatesOf_35 : decode cX1_onPlatesOf 35 = .ok (.istore_n 3, 1) := by decide +kernel
theorem dX1_onPlatesOf_36 : decode cX1_onPlatesOf 36 = .ok (.iinc 4 1, 3) := by decide +kernel
theorem dX1_onPlatesOf_39 : decode cX1_onPlatesOf 39 = .ok (.goto (-34), 3) := by decide +kernel
theorem dX1_onPlatesOf_42 : decode cX1_onPlatesOf 42 = .ok (.iload_n 3, 1) := by decide +kernel
theorem dX1_onPlatesOf_43 : decode cX1_onPlatesOf 43 = .ok (.ireturn, 1) := by decide +kernel
theorem dX8_everybody_0 : decode cX8_everybody 0 = .ok (.iconst 1, 1) := by decide +kernel
theorem dX8_everybody_1 : decode cX8_everybody 1 = .ok (.aload_n 0, 1) := by decide +kernel
theorem dX8_everybody_2 : decode cX8_everybody 2 = .ok (.getfield 28, 3) := by decide +kernel
theorem dX8_everybody_5 : decode cX8_everybody 5 = .ok (.ishl, 1) := by decide +kernel
theorem dX8_everybody_6 : decode cX8_everybody 6 = .ok (.iconst 1, 1) := by decide +kernel
theorem dX8_everybody_7 : decode cX8_everybody 7 = .ok (.isub, 1) := by decide +kernel
theorem dX8_everybody_8 : decode cX8_everybody 8 = .ok (.ireturn, 1) := by decide +kernel
theorem dX8_hasDish_0 : decode cX8_hasDish 0 = .ok (.iload_n 1, 1) := by decide +kernel
theorem dX8_hasDish_1 : decode cX8_hasDish 1 = .ok (.ifCond .lt 15, 3) := by decide +kernel
theorem dX8_hasDish_4 : decode cX8_hasDish 4 = .ok (.iload_n 1, 1) := by decide +kernel
theorem dX8_hasDish_5 : decode cX8_hasDish 5 = .ok (.aload_n 0, 1) := by decide +kernel
theorem dX8_hasDish_6 : decode cX8_hasDish 6 = .ok (.getfield 32, 3) := by decide +kernel
theorem dX8_hasDish_9 : decode cX8_hasDish 9 = .ok (.if_icmp .ge 7, 3) := by decide +kernel
theorem dX8_hasDish_12 : decode cX8_hasDish 12 = .ok (.iconst 1, 1) := by decide +kernel
theorem dX8_hasDish_13 : decode cX8_hasDish 13 = .ok (.goto 4, 3) := by decide +kernel
theorem dX8_hasDish_16 : decode cX8_hasDish 16 = .ok (.iconst 0, 1) := by decide +kernel
theorem dX8_hasDish_17 : decode cX8_hasDish 17 = .ok (.ireturn, 1) := by decide +kernel
theorem dX8_hasPerson_0 : decode cX8_hasPerson 0 = .ok (.iload_n 1, 1) := by decide +kernel
theorem dX8_hasPerson_1 : decode cX8_hasPerson 1 = .ok (.ifCond .lt 15, 3) := by decide +kernel
theorem dX8_hasPerson_4 : decode cX8_hasPerson 4 = .ok (.iload_n 1, 1) := by decide +kernel
theorem dX8_hasPerson_5 : decode cX8_hasPerson 5 = .ok (.aload_n 0, 1) := by decide +kernel
theorem dX8_hasPerson_6 : decode cX8_hasPerson 6 = .ok (.getfield 28, 3) := by decide +kernel
theorem dX8_hasPerson_9 : decode cX8_hasPerson 9 = .ok (.if_icmp .ge 7, 3) := by decide +kernel
theorem dX8_hasPerson_12 : decode cX8_hasPerson 12 = .ok (.iconst 1, 1) := by decide +kernel
theorem dX8_hasPerson_13 : decode cX8_hasPerson 13 = .ok (.goto 4, 3) := by decide +kernel
theorem dX8_hasPerson_16 : decode cX8_hasPerson 16 = .ok (.iconst 0, 1) := by decide +kernel
theorem dX8_hasPerson_17 : decode cX8_hasPerson 17 = .ok (.ireturn, 1) := by decide +kernel
theorem dX9_readFrom_0 : decode cX9_readFrom 0 = .ok (.aload_n 0, 1) := by decide +kernel
theorem dX9_readFrom_1 : decode cX9_readFrom 1 = .ok (.getfield 12, 3) := by decide +kernel
theorem dX9_readFrom_4 : decode cX9_readFrom 4 = .ok (.invokevirtual 34, 3) := by decide +kernel
theorem dX9_readFrom_7 : decode cX9_readFrom 7 = .ok (.aload_n 0, 1) := by decide +kernel
theorem dX9_readFrom_8 : decode cX9_readFrom 8 = .ok (.getfield 23, 3) := by decide +kernel
theorem dX9_readFrom_11 : decode cX9_readFrom 11 = .ok (.invokevirtual 37, 3) := by decide +kernel
theorem dX9_readFrom_14 : decode cX9_readFrom 14 = .ok (.aload_n 0, 1) := by decide +kernel
theorem dX9_readFrom_15 : decode cX9_readFrom 15 = .ok (.iconst 0, 1) := by decide +kernel
theorem dX9_readFrom_16 : decode cX9_readFrom 16 = .ok (.putfield 27, 3) := by decide +kernel
theorem dX9_readFrom_19 : decode cX9_readFrom 19 = .ok (.aload_n 0, 1) := by decide +kernel
theorem dX9_readFrom_20 : decode cX9_readFrom 20 = .ok (.iconst 0, 1) := by decide +kernel
theorem dX9_readFrom_21 : decode cX9_readFrom 21 = .ok (.putfield 31, 3) := by decide +kernel
theorem dX9_readFrom_24 : decode cX9_readFrom 24 = .ok (.aload_n 1, 1) := by decide +kernel
theorem dX9_readFrom_25 : decode cX9_readFrom 25 = .ok (.sipush 900, 3) := by decide +kernel
theorem dX9_readFrom_28 : decode cX9_readFrom 28 = .ok (.invokevirtual 38, 3) := by decide +kernel
theorem dX9_readFrom_31 : decode cX9_readFrom 31 = .ok (.iconst 0, 1) := by decide +kernel
theorem dX9_readFrom_32 : decode cX9_readFrom 32 = .ok (.istore_n 2, 1) := by decide +kernel
theorem dX9_readFrom_33 : decode cX9_readFrom 33 = .ok (.iload_n 2, 1) := by decide +kernel
theorem dX9_readFrom_34 : decode cX9_readFrom 34 = .ok (.sipush 900, 3) := by decide +kernel
theorem dX9_readFrom_37 : decode cX9_readFrom 37 = .ok (.if_icmp .ge 26, 3) := by decide +kernel
theorem dX9_readFrom_40 : decode cX9_readFrom 40 = .ok (.aload_n 1, 1) := by decide +kernel
theorem dX9_readFrom_41 : decode cX9_readFrom 41 = .ok (.getfield 44, 3) := by decide +kernel
theorem dX9_readFrom_44 : decode cX9_readFrom 44 = .ok (.bipush 102, 2) := by decide +kernel
theorem dX9_readFrom_46 : decode cX9_readFrom 46 = .ok (.if_icmp .eq 17, 3) := by decide +kernel
theorem dX9_readFrom_49 : decode cX9_readFrom 49 = .ok (.aload_n 0, 1) := by decide +kernel
theorem dX9_readFrom_50 : decode cX9_readFrom 50 = .ok (.aload_n 1, 1) := by decide +kernel
theorem dX9_readFrom_51 : decode cX9_readFrom 51 = .ok (.invokevirtual 48, 3) := by decide +kernel
theorem dX9_readFrom_54 : decode cX9_readFrom 54 = .ok (.ifCond .eq 9, 3) := by decide +kernel
theorem dX9_readFrom_57 : decode cX9_readFrom 57 = .ok (.iinc 2 1, 3) := by decide +kernel
theorem dX9_readFrom_60 : decode cX9_readFrom 60 = .ok (.goto (-27), 3) := by decide +kernel
theorem dX9_readFrom_63 : decode cX9_readFrom 63 = .ok (.iload_n 2, 1) := by decide +kernel
theorem dX9_readFrom_64 : decode cX9_readFrom 64 = .ok (.ireturn, 1) := by decide +kernel
theorem dX9_readLine_0 : decode cX9_readLine 0 = .ok (.aload_n 1, 1) := by decide +kernel
theorem dX9_readLine_1 : decode cX9_readLine 1 = .ok (.getfield 44, 3) := by decide +kernel
theorem dX9_readLine_4 : decode cX9_readLine 4 = .ok (.tableswitch 66 0 4 #[36, 42, 48, 54, 60], 36) := by decide +kernel
theorem dX9_readLine_40 : decode cX9_readLine 40 = .ok (.aload_n 0, 1) := by decide +kernel
theorem dX9_readLine_41 : decode cX9_readLine 41 = .ok (.aload_n 1, 1) := by decide +kernel
theorem dX9_readLine_42 : decode cX9_readLine 42 = .ok (.invokevirtual 52, 3) := by decide +kernel
theorem dX9_readLine_45 : decode cX9_readLine 45 = .ok (.ireturn, 1) := by decide +kernel
theorem dX9_readLine_46 : decode cX9_readLine 46 = .ok (.aload_n 0, 1) := by decide +kernel
theorem dX9_readLine_47 : decode cX9_readLine 47 = .ok (.aload_n 1, 1) := by decide +kernel
theorem dX9_readLine_48 : decode cX9_readLine 48 = .ok (.invokevirtual 55, 3) := by decide +kernel
theorem dX9_readLine_51 : decode cX9_readLine 51 = .ok (.ireturn, 1) := by decide +kernel
theorem dX9_readLine_52 : decode cX9_readLine 52 = .ok (.aload_n 0, 1) := by decide +kernel
theorem dX9_readLine_53 : decode cX9_readLine 53 = .ok (.aload_n 1, 1) := by decide +kernel
theorem dX9_readLine_54 : decode cX9_readLine 54 = .ok (.invokevirtual 58, 3) := by decide +kernel
theorem dX9_readLine_57 : decode cX9_readLine 57 = .ok (.ireturn, 1) := by decide +kernel
theorem dX9_readLine_58 : decode cX9_readLine 58 = .ok (.aload_n 0, 1) := by decide +kernel
theorem dX9_readLine_59 : decode cX9_readLine 59 = .ok (.aload_n 1, 1) := by decide +kernel
theorem dX9_readLine_60 : decode cX9_readLine 60 = .ok (.invokevirtual 61, 3) := by decide +kernel
theorem dX9_readLine_63 : decode cX9_readLine 63 = .ok (.ireturn, 1) := by decide +kernel
theorem dX9_readLine_64 : decode cX9_readLine 64 = .ok (.aload_n 0, 1) := by decide +kernel
theorem dX9_readLine_65 : decode cX9_readLine 65 = .ok (.aload_n 1, 1) := by decide +kernel
theorem dX9_readLine_66 : decode cX9_readLine 66 = .ok (.invokevirtual 64, 3) := by decide +kernel
theorem dX9_readLine_69 : decode cX9_readLine 69 = .ok (.ireturn, 1) := by decide +kernel
theorem dX9_readLine_70 : decode cX9_readLine 70 = .ok (.aload_n 1, 1) := by decide +kernel
theorem dX9_readLine_71 : decode cX9_readLine 71 = .ok (.iconst 1, 1) := by decide +kernel
theorem dX9_readLine_72 : decode cX9_readLine 72 = .ok (.invokevirtual 67, 3) := by decide +kernel
theorem dX9_readLine_75 : decode cX9_readLine 75 = .ok (.ireturn, 1) := by decide +kernel
theorem dX9_readPerson_0 : decode cX9_readPerson 0 = .ok (.aload_n 0, 1) := by decide +kernel
theorem dX9_readPerson_1 : decode cX9_readPerson 1 = .ok (.getfield 12, 3) := by decide +kernel
theorem dX9_readPerson_4 : decode cX9_readPerson 4 = .ok (.getfield 85, 3) := by decide +kernel
theorem dX9_readPerson_7 : decode cX9_readPerson 7 = .ok (.bipush 7, 2) := by decide +kernel
theorem dX9_readPerson_9 : decode cX9_readPerson 9 = .ok (.if_icmp .lt 9, 3) := by decide +kernel
theorem dX9_readPerson_12 : decode cX9_readPerson 12 = .ok (.aload_n 1, 1) := by decide +kernel
theorem dX9_readPerson_13 : decode cX9_readPerson 13 = .ok (.iconst 4, 1) := by decide +kernel
theorem dX9_readPerson_14 : decode cX9_readPerson 14 = .ok (.invokevirtual 67, 3) := by decide +kernel
theorem dX9_readPerson_17 : decode cX9_readPerson 17 = .ok (.ireturn, 1) := by decide +kernel
theorem dX9_readPerson_18 : decode cX9_readPerson 18 = .ok (.aload_n 1, 1) := by decide +kernel
theorem dX9_readPerson_19 : decode cX9_readPerson 19 = .ok (.invokevirtual 82, 3) := by decide +kernel
theorem dX9_readPerson_22 : decode cX9_readPerson 22 = .ok (.aload_n 1, 1) := by decide +kernel
theorem dX9_readPerson_23 : decode cX9_readPerson 23 = .ok (.getfield 71, 3) := by decide +kernel
theorem dX9_readPerson_26 : decode cX9_readPerson 26 = .ok (.lstore_n 2, 1) := by decide +kernel
theorem dX9_readPerson_27 : decode cX9_readPerson 27 = .ok (.aload_n 0, 1) := by decide +kernel
theorem dX9_readPerson_28 : decode cX9_readPerson 28 = .ok (.aload_n 1, 1) := by decide +kernel
theorem dX9_readPerson_29 : decode cX9_readPerson 29 = .ok (.invokevirtual 88, 3) := by decide +kernel
theorem dX9_readPerson_32 : decode cX9_readPerson 32 = .ok (.ifCond .ne 5, 3) := by decide +kernel
theorem dX9_readPerson_35 : decode cX9_readPerson 35 = .ok (.iconst 0, 1) := by decide +kernel
theorem dX9_readPerson_36 : decode cX9_readPerson 36 = .ok (.ireturn, 1) := by decide +kernel
theorem dX9_readPerson_37 : decode cX9_readPerson 37 = .ok (.aload_n 1, 1) := by decide +kernel
theorem dX9_readPerson_38 : decode cX9_readPerson 38 = .ok (.iconst 0, 1) := by decide +kernel
theorem dX9_readPerson_39 : decode cX9_readPerson 39 = .ok (.bipush 20, 2) := by decide +kernel
theorem dX9_readPerson_41 : decode cX9_readPerson 41 = .ok (.invokevirtual 91, 3) := by decide +kernel
theorem dX9_readPerson_44 : decode cX9_readPerson 44 = .ok (.istore 4, 2) := by decide +kernel
theorem dX9_readPerson_46 : decode cX9_readPerson 46 = .ok (.iload 4, 2) := by decide +kernel
theorem dX9_readPerson_48 : decode cX9_readPerson 48 = .ok (.iconst (-1), 1) := by decide +kernel
theorem dX9_readPerson_49 : decode cX9_readPerson 49 = .ok (.if_icmp .ne 5, 3) := by decide +kernel
theorem dX9_readPerson_52 : decode cX9_readPerson 52 = .ok (.iconst 0, 1) := by decide +kernel
theorem dX9_readPerson_53 : decode cX9_readPerson 53 = .ok (.ireturn, 1) := by decide +kernel
theorem dX9_readPerson_54 : decode cX9_readPerson 54 = .ok (.iconst (-1), 1) := by decide +kernel
theorem dX9_readPerson_55 : decode cX9_readPerson 55 = .ok (.istore 5, 2) := by decide +kernel
theorem dX9_readPerson_57 : decode cX9_readPerson 57 = .ok (.aload_n 1, 1) := by decide +kernel
theorem dX9_readPerson_58 : decode cX9_readPerson 58 = .ok (.getfield 44, 3) := by decide +kernel
theorem dX9_readPerson_61 : decode cX9_readPerson 61 = .ok (.iconst 5, 1) := by decide +kernel
theorem dX9_readPerson_62 : decode cX9_readPerson 62 = .ok (.if_icmp .ne 32, 3) := by decide +kernel
theorem dX9_readPerson_65 : decode cX9_readPerson 65 = .ok (.aload_n 1, 1) := by decide +kernel
theorem dX9_readPerson_66 : decode cX9_readPerson 66 = .ok (.invokevirtual 82, 3) := by decide +kernel
theorem dX9_readPerson_69 : decode cX9_readPerson 69 = .ok (.aload_n 1, 1) := by decide +kernel
theorem dX9_readPerson_70 : decode cX9_readPerson 70 = .ok (.aload_n 0, 1) := by decide +kernel
theorem dX9_readPerson_71 : decode cX9_readPerson 71 = .ok (.getfield 12, 3) := by decide +kernel
theorem dX9_readPerson_74 : decode cX9_readPerson 74 = .ok (.aload_n 1, 1) := by decide +kernel
theorem dX9_readPerson_75 : decode cX9_readPerson 75 = .ok (.getfield 71, 3) := by decide +kernel
theorem dX9_readPerson_78 : decode cX9_readPerson 78 = .ok (.invokevirtual 75, 3) := by decide +kernel
theorem dX9_readPerson_81 : decode cX9_readPerson 81 = .ok (.invokevirtual 95, 3) := by decide +kernel
theorem dX9_readPerson_84 : decode cX9_readPerson 84 = .ok (.istore 5, 2) := by decide +kernel
theorem dX9_readPerson_86 : decode cX9_readPerson 86 = .ok (.iload 5, 2) := by decide +kernel
theorem dX9_readPerson_88 : decode cX9_readPerson 88 = .ok (.iconst (-1), 1) := by decide +kernel
theorem dX9_readPerson_89 : decode cX9_readPerson 89 = .ok (.if_icmp .ne 5, 3) := by decide +kernel
theorem dX9_readPerson_92 : decode cX9_readPerson 92 = .ok (.iconst 0, 1) := by decide +kernel
theorem dX9_readPerson_93 : decode cX9_readPerson 93 = .ok (.ireturn, 1) := by decide +kernel
theorem dX9_readPerson_94 : decode cX9_readPerson 94 = .ok (.aload_n 0, 1) := by decide +kernel
theorem dX9_readPerson_95 : decode cX9_readPerson 95 = .ok (.getfield 12, 3) := by decide +kernel
theorem dX9_readPerson_98 : decode cX9_readPerson 98 = .ok (.getfield 99, 3) := by decide +kernel
theorem dX9_readPerson_101 : decode cX9_readPerson 101 = .ok (.aload_n 0, 1) := by decide +kernel
theorem dX9_readPerson_102 : decode cX9_readPerson 102 = .ok (.getfield 12, 3) := by decide +kernel
theorem dX9_readPerson_105 : decode cX9_readPerson 105 = .ok (.getfield 85, 3) := by decide +kernel
theorem dX9_readPerson_108 : decode cX9_readPerson 108 = .ok (.lload_n 2, 1) := by decide +kernel
theorem dX9_readPerson_109 : decode cX9_readPerson 109 = .ok (.lastore, 1) := by decide +kernel
theorem dX9_readPerson_110 : decode cX9_readPerson 110 = .ok (.aload_n 0, 1) := by decide +kernel
theorem dX9_readPerson_111 : decode cX9_readPerson 111 = .ok (.getfield 12, 3) := by decide +kernel
theorem dX9_readPerson_114 : decode cX9_readPerson 114 = .ok (.getfield 103, 3) := by decide +kernel
theorem dX9_readPerson_117 : decode cX9_readPerson 117 = .ok (.aload_n 0, 1) := by decide +kernel
theorem dX9_readPerson_118 : decode cX9_readPerson 118 = .ok (.getfield 12, 3) := by decide +kernel
theorem dX9_readPerson_121 : decode cX9_readPerson 121 = .ok (.getfield 85, 3) := by decide +kernel
theorem dX9_readPerson_124 : decode cX9_readPerson 124 = .ok (.iload 4, 2) := by decide +kernel
theorem dX9_readPerson_126 : decode cX9_readPerson 126 = .ok (.iastore, 1) := by decide +kernel
theorem dX9_readPerson_127 : decode cX9_readPerson 127 = .ok (.aload_n 0, 1) := by decide +kernel
theorem dX9_readPerson_128 : decode cX9_readPerson 128 = .ok (.getfield 12, 3) := by decide +kernel
theorem dX9_readPerson_131 : decode cX9_readPerson 131 = .ok (.getfield 107, 3) := by decide +kernel
theorem dX9_readPerson_134 : decode cX9_readPerson 134 = .ok (.aload_n 0, 1) := by decide +kernel
theorem dX9_readPerson_135 : decode cX9_readPerson 135 = .ok (.getfield 12, 3) := by decide +kernel
theorem dX9_readPerson_138 : decode cX9_readPerson 138 = .ok (.getfield 85, 3) := by decide +kernel
theorem dX9_readPerson_141 : decode cX9_readPerson 141 = .ok (.iload 5, 2) := by decide +kernel
theorem dX9_readPerson_143 : decode cX9_readPerson 143 = .ok (.iastore, 1) := by decide +kernel
theorem dX9_readPerson_144 : decode cX9_readPerson 144 = .ok (.aload_n 0, 1) := by decide +kernel
theorem dX9_readPerson_145 : decode cX9_readPerson 145 = .ok (.getfield 12, 3) := by decide +kernel
theorem dX9_readPerson_148 : decode cX9_readPerson 148 = .ok (.dup, 1) := by decide +kernel
theorem dX9_readPerson_149 : decode cX9_readPerson 149 = .ok (.getfield 85, 3) := by decide +kernel
theorem dX9_readPerson_152 : decode cX9_readPerson 152 = .ok (.iconst 1, 1) := by decide +kernel
theorem dX9_readPerson_153 : decode cX9_readPerson 153 = .ok (.iadd, 1) := by decide +kernel
theorem dX9_readPerson_154 : decode cX9_readPerson 154 = .ok (.putfield 85, 3) := by decide +kernel
theorem dX9_readPerson_157 : decode cX9_readPerson 157 = .ok (.aload_n 1, 1) := by decide +kernel
theorem dX9_readPerson_158 : decode cX9_readPerson 158 = .ok (.bipush 59, 2) := by decide +kernel
theorem dX9_readPerson_160 : decode cX9_readPerson 160 = .ok (.invokevirtual 110, 3) := by decide +kernel
theorem dX9_readPerson_163 : decode cX9_readPerson 163 = .ok (.ireturn, 1) := by decide +kernel
theorem dX9_readPlate_0 : decode cX9_readPlate 0 = .ok (.aload_n 1, 1) := by decide +kernel
theorem dX9_readPlate_1 : decode cX9_readPlate 1 = .ok (.invokevirtual 82, 3) := by decide +kernel
theorem dX9_readPlate_4 : decode cX9_readPlate 4 = .ok (.aload_n 1, 1) := by decide +kernel
theorem dX9_readPlate_5 : decode cX9_readPlate 5 = .ok (.aload_n 0, 1) := by decide +kernel
theorem dX9_readPlate_6 : decode cX9_readPlate 6 = .ok (.getfield 12, 3) := by decide +kernel
theorem dX9_readPlate_9 : decode cX9_readPlate 9 = .ok (.aload_n 1, 1) := by decide +kernel
theorem dX9_readPlate_10 : decode cX9_readPlate 10 = .ok (.getfield 71, 3) := by decide +kernel
theorem dX9_readPlate_13 : decode cX9_readPlate 13 = .ok (.invokevirtual 75, 3) := by decide +kernel
theorem dX9_readPlate_16 : decode cX9_readPlate 16 = .ok (.invokevirtual 95, 3) := by decide +kernel
theorem dX9_readPlate_19 : decode cX9_readPlate 19 = .ok (.istore_n 2, 1) := by decide +kernel
theorem dX9_readPlate_20 : decode cX9_readPlate 20 = .ok (.iload_n 2, 1) := by decide +kernel
theorem dX9_readPlate_21 : decode cX9_readPlate 21 = .ok (.iconst (-1), 1) := by decide +kernel
theorem dX9_readPlate_22 : decode cX9_readPlate 22 = .ok (.if_icmp .ne 5, 3) := by decide +kernel
theorem dX9_readPlate_25 : decode cX9_readPlate 25 = .ok (.iconst 0, 1) := by decide +kernel
theorem dX9_readPlate_26 : decode cX9_readPlate 26 = .ok (.ireturn, 1) := by decide +kernel
theorem dX9_readPlate_27 : decode cX9_readPlate 27 = .ok (.aload_n 0, 1) := by decide +kernel
theorem dX9_readPlate_28 : decode cX9_readPlate 28 = .ok (.getfield 12, 3) := by decide +kernel
theorem dX9_readPlate_31 : decode cX9_readPlate 31 = .ok (.aload_n 1, 1) := by decide +kernel
theorem dX9_readPlate_32 : decode cX9_readPlate 32 = .ok (.getfield 71, 3) := by decide +kernel
theorem dX9_readPlate_35 : decode cX9_readPlate 35 = .ok (.invokevirtual 79, 3) := by decide +kernel
theorem dX9_readPlate_38 : decode cX9_readPlate 38 = .ok (.istore_n 3, 1) := by decide +kernel
theorem dX9_readPlate_39 : decode cX9_readPlate 39 = .ok (.aload_n 1, 1) := by decide +kernel
theorem dX9_readPlate_40 : decode cX9_readPlate 40 = .ok (.getfield 44, 3) := by decide +kernel
theorem dX9_readPlate_43 : decode cX9_readPlate 43 = .ok (.bipush 100, 2) := by decide +kernel
theorem dX9_readPlate_45 : decode cX9_readPlate 45 = .ok (.if_icmp .ne 26, 3) := by decide +kernel
theorem dX9_readPlate_48 : decode cX9_readPlate 48 = .ok (.iload_n 3, 1) := by decide +kernel
theorem dX9_readPlate_49 : decode cX9_readPlate 49 = .ok (.iconst (-1), 1) := by decide +kernel
theorem dX9_readPlate_50 : decode cX9_readPlate 50 = .ok (.if_icmp .eq 21, 3) := by decide +kernel
theorem dX9_readPlate_53 : decode cX9_readPlate 53 = .ok (.aload_n 0, 1) := by decide +kernel
theorem dX9_readPlate_54 : decode cX9_readPlate 54 = .ok (.getfield 23, 3) := by decide +kernel
theorem dX9_readPlate_57 : decode cX9_readPlate 57 = .ok (.iload_n 2, 1) := by decide +kernel
theorem dX9_readPlate_58 : decode cX9_readPlate 58 = .ok (.iload_n 3, 1) := by decide +kernel
theorem dX9_readPlate_59 : decode cX9_readPlate 59 = .ok (.invokevirtual 125, 3) := by decide +kernel
theorem dX9_readPlate_62 : decode cX9_readPlate 62 = .ok (.ifCond .le 9, 3) := by decide +kernel
theorem dX9_readPlate_65 : decode cX9_readPlate 65 = .ok (.aload_n 1, 1) := by decide +kernel
theorem dX9_readPlate_66 : decode cX9_readPlate 66 = .ok (.iconst 3, 1) := by decide +kernel
theorem dX9_readPlate_67 : decode cX9_readPlate 67 = .ok (.invokevirtual 67, 3) := by decide +kernel
theorem dX9_readPlate_70 : decode cX9_readPlate 70 = .ok (.ireturn, 1) := by decide +kernel
theorem dX9_readPlate_71 : decode cX9_readPlate 71 = .ok (.aload_n 1, 1) := by decide +kernel
theorem dX9_readPlate_72 : decode cX9_readPlate 72 = .ok (.iload_n 3, 1) := by decide +kernel
theorem dX9_readPlate_73 : decode cX9_readPlate 73 = .ok (.invokevirtual 95, 3) := by decide +kernel
theorem dX9_readPlate_76 : decode cX9_readPlate 76 = .ok (.iconst (-1), 1) := by decide +kernel
theorem dX9_readPlate_77 : decode cX9_readPlate 77 = .ok (.if_icmp .ne 5, 3) := by decide +kernel
theorem dX9_readPlate_80 : decode cX9_readPlate 80 = .ok (.iconst 0, 1) := by decide +kernel
theorem dX9_readPlate_81 : decode cX9_readPlate 81 = .ok (.ireturn, 1) := by decide +kernel
theorem dX9_readPlate_82 : decode cX9_readPlate 82 = .ok (.aload_n 1, 1) := by decide +kernel
theorem dX9_readPlate_83 : decode cX9_readPlate 83 = .ok (.iconst 1, 1) := by decide +kernel
theorem dX9_readPlate_84 : decode cX9_readPlate 84 = .ok (.bipush 40, 2) := by decide +kernel
theorem dX9_readPlate_86 : decode cX9_readPlate 86 = .ok (.invokevirtual 91, 3) := by decide +kernel
theorem dX9_readPlate_89 : decode cX9_readPlate 89 = .ok (.istore 4, 2) := by decide +kernel
theorem dX9_readPlate_91 : decode cX9_readPlate 91 = .ok (.iload 4, 2) := by decide +kernel
theorem dX9_readPlate_93 : decode cX9_readPlate 93 = .ok (.iconst (-1), 1) := by decide +kernel
theorem dX9_readPlate_94 : decode cX9_readPlate 94 = .ok (.if_icmp .ne 5, 3) := by decide +kernel
theorem dX9_readPlate_97 : decode cX9_readPlate 97 = .ok (.iconst 0, 1) := by decide +kernel
theorem dX9_readPlate_98 : decode cX9_readPlate 98 = .ok (.ireturn, 1) := by decide +kernel
theorem dX9_readPlate_99 : decode cX9_readPlate 99 = .ok (.aload_n 0, 1) := by decide +kernel
theorem dX9_readPlate_100 : decode cX9_readPlate 100 = .ok (.getfield 23, 3) := by decide +kernel
theorem dX9_readPlate_103 : decode cX9_readPlate 103 = .ok (.iload_n 2, 1) := by decide +kernel
theorem dX9_readPlate_104 : decode cX9_readPlate 104 = .ok (.iload_n 3, 1) := by decide +kernel
theorem dX9_readPlate_105 : decode cX9_readPlate 105 = .ok (.iload 4, 2) := by decide +kernel
theorem dX9_readPlate_107 : decode cX9_readPlate 107 = .ok (.invokevirtual 128, 3) := by decide +kernel
theorem dX9_readPlate_110 : decode cX9_readPlate 110 = .ok (.aload_n 1, 1) := by decide +kernel
theorem dX9_readPlate_111 : decode cX9_readPlate 111 = .ok (.bipush 59, 2) := by decide +kernel
theorem dX9_readPlate_113 : decode cX9_readPlate 113 = .ok (.invokevirtual 110, 3) := by decide +kernel
theorem dX9_readPlate_116 : decode cX9_readPlate 116 = .ok (.ireturn, 1) := by decide +kernel
theorem rc_5 : Rg 5 5 5 := ⟨by decide, by decide⟩
theorem rc_20 : Rg 20 20 20 := ⟨by decide, by decide⟩
theorem rc_900 : Rg 900 900 900 := ⟨by decide, by decide⟩
set_option maxRecDepth 100000 in
set_option maxHeartbeats 8000000 in
theorem c_X9_readPerson {l : Launch} {D : va_G} {cy : Nat → ClassId} {L : List Nat} {κ ln : Nat → Nat} {R : Nat → Nat → Option Nat} {I : Nat → Nat → Int32} {J : Nat → Nat → Int64} {ow : Nat → Nat × Nat} (W9 : ∀ a ∈ L, Shp L κ ln R ow a) {x : Nat} (hLx : x ∈ L) (hkx : κ x = 9) {a0 : Nat} (hLa0 : a0 ∈ L) (hka0 : κ a0 = 10) (hU : Iv L κ R ow I) : CtI l yX9_readPerson cX9_readPerson 6 (some .boolean) { frames := 2, cells := 0, slots := 0, locals := 44 } D cy L κ ln R I J [.ref x, .ref a0] (fun r I2 J2 => Iv L κ R ow I2 ∧ Fq L κ ow [805, 1007, 1008, 1009, 1011, 1012, 58100, 58200] I I2 ∧ Fq L κ ow [1010, 58000] J J2 ∧ Rg 0 1 r ∧ ((r, TPf R I2 J2 a0, TBf R I2 J2 (rr_ R x 0), CPf R I2 J2 (rr_ R x 1), XPf R I2 J2 x) = fReadPerson (TPf R I J a0) (TBf R I J (rr_ R x 0)) (CPf R I J (rr_ R x 1)) (XPf R I J x))) := by
  refine CtI.of (by decide +kernel) (Nat.le_of_ble_eq_true rfl) ?_
  intro p e s m below meth c B K
  have C := B.1
  have hF : Fq L κ ow [805, 1007, 1008, 1009, 1011, 1012, 58100, 58200] I I := fq_rf
  have hG : Fq L κ ow [1010, 58000] J J := fq_rf
  obtain ⟨b_1, hb_1, hb_1L, hb_1k⟩ := shp_o (W9 x hLx) hkx 0 8 rfl (by decide)
  obtain ⟨b_2, hb_2, hb_2L, hb_2k, hb_2n, hb_2o⟩ := shp_a (W9 b_1 hb_1L) hb_1k 2 14 7 rfl (by decide)
  obtain ⟨b_3, hb_3, hb_3L, hb_3k, hb_3n, hb_3o⟩ := shp_a (W9 b_1 hb_1L) hb_1k 1 14 7 rfl (by decide)
  obtain ⟨b_4, hb_4, hb_4L, hb_4k, hb_4n, hb_4o⟩ := shp_a (W9 b_1 hb_1L) hb_1k 0 15 7 rfl (by decide)
  obtain ⟨b_5, hb_5, hb_5L, hb_5k, hb_5n, hb_5o⟩ := shp_a (W9 a0 hLa0) hka0 0 13 940 rfl (by decide)
  obtain ⟨b_6, hb_6, hb_6L, hb_6k, hb_6n, hb_6o⟩ := shp_a (W9 a0 hLa0) hka0 1 15 28 rfl (by decide)
  obtain ⟨b_7, hb_7, hb_7L, hb_7k, hb_7n, hb_7o⟩ := shp_a (W9 a0 hLa0) hka0 2 14 901 rfl (by decide)
  obtain ⟨b_8, hb_8, hb_8L, hb_8k, hb_8n, hb_8o⟩ := shp_a (W9 a0 hLa0) hka0 3 14 901 rfl (by decide)
  obtain ⟨b_9, hb_9, hb_9L, hb_9k, hb_9n, hb_9o⟩ := shp_a (W9 a0 hLa0) hka0 4 15 901 rfl (by decide)
  have etqa0 : ∀ I J, TPf R I J a0 = TPq I J a0 b_5 b_6 b_7 b_8 b_9 := fun I J => by simp only [TPf, rr_, Option.getD_some, hb_5, hb_6, hb_7, hb_8, hb_9]
  have wtqa0 : tqw_ L κ ow a0 b_5 b_6 b_7 b_8 b_9 := ⟨⟨hLa0, hb_5L, hb_6L, hb_7L, hb_8L, hb_9L⟩, ⟨(ro_o hka0 (by decide)), (ro_a hb_5k (by decide) hb_5o hka0 rfl), (ro_a hb_6k (by decide) hb_6o hka0 rfl), (ro_a hb_7k (by decide) hb_7o hka0 rfl), (ro_a hb_8k (by decide) hb_8o hka0 rfl), (ro_a hb_9k (by decide) hb_9o hka0 rfl)⟩⟩
  obtain ⟨s_10, hs_10⟩ : ∃ z, TPq I J a0 b_5 b_6 b_7 b_8 b_9 = z := ⟨_, rfl⟩
  obtain ⟨b_11, hb_11, hb_11L, hb_11k, hb_11n, hb_11o⟩ := shp_a (W9 b_1 hb_1L) hb_1k 3 15 6 rfl (by decide)
  have ebqx_0 : ∀ I J, TBf R I J (rr_ R x 0) = TBq I J b_1 b_4 b_2 b_11 := fun I J => by simp only [TBf, rr_, Option.getD_some, hb_4, hb_2, hb_11, hb_1]
  have dbqx_0 : ∀ I J, TBf R I J b_1 = TBq I J b_1 b_4 b_2 b_11 := fun I J => by simp only [TBf, rr_, Option.getD_some, hb_4, hb_2, hb_11, hb_1]
  have wbqx_0 : bqw_ L κ ow b_1 b_4 b_2 b_11 := ⟨⟨hb_1L, hb_4L, hb_2L, hb_11L⟩, ⟨(ro_o hb_1k (by decide)), (ro_a hb_4k (by decide) hb_4o hb_1k rfl), (ro_a hb_2k (by decide) hb_2o hb_1k rfl), (ro_a hb_11k (by decide) hb_11o hb_1k rfl)⟩⟩
  obtain ⟨s_12, hs_12⟩ : ∃ z, TBq I J b_1 b_4 b_2 b_11 = z := ⟨_, rfl⟩
  obtain ⟨b_13, hb_13, hb_13L, hb_13k⟩ := shp_o (W9 x hLx) hkx 1 1 rfl (by decide)
  obtain ⟨b_14, hb_14, hb_14L, hb_14k, hb_14n, hb_14o⟩ := shp_a (W9 b_13 hb_13L) hb_13k 2 14 42 rfl (by decide)
  have ecqx_1 : ∀ I J, CPf R I J (rr_ R x 1) = CPq I J b_13 b_14 := fun I J => by simp only [CPf, rr_, Option.getD_some, hb_14, hb_13]
  have dcqx_1 : ∀ I J, CPf R I J b_13 = CPq I J b_13 b_14 := fun I J => by simp only [CPf, rr_, Option.getD_some, hb_14, hb_13]
  have wcqx_1 : cqw_ L κ ow b_13 b_14 := ⟨⟨hb_13L, hb_14L⟩, ⟨(ro_o hb_13k (by decide)), (ro_a hb_14k (by decide) hb_14o hb_13k rfl)⟩⟩
  obtain ⟨s_15, hs_15⟩ : ∃ z, CPq I J b_13 b_14 = z := ⟨_, rfl⟩
  have exqx : ∀ I J, XPf R I J x = XPq I J x := fun I J => by simp only [XPf, rr_, Option.getD_some]
  have wxqx : xqw_ L κ ow x := ⟨hLx, (ro_o hkx (by decide))⟩
  obtain ⟨s_16, hs_16⟩ : ∃ z, XPq I J x = z := ⟨_, rfl⟩
  refine g_lo (is := [0, 1]) (lo2 := [(0, .ref x), (1, .ref a0)]) rfl ?_
  refine g_aload_n C 0 dX9_readPerson_0 rfl rfl ?_
  refine g_getR C K hLx hkx f_9_12 hb_1 dX9_readPerson_1 ?_
  obtain ⟨x_17, hx_17, rx_17⟩ := ex_get (I := I) (a := b_1) (j := 5) (lo := 0) (hi := 7) hU.1 hb_1L (ro_o hb_1k (by decide)) rfl
  have f_18 : s_12.persons = x_17 := (congrArg TB_.persons hs_12).symm.trans hx_17
  refine g_getI C K hb_1L hb_1k f_9_85 (v := x_17) hx_17 dX9_readPerson_4 ?_
  refine g_bipush C (v := 7) dX9_readPerson_7 (by decide) ?_
  refine g_icmp_lt C (tgt := 18) dX9_readPerson_9 (by decide) (fun h_19 => ?_) (fun h_19 => ?_)
  · skip
    have r_20 := lt_l (hi := 6) (h_19) rx_17 rc_7 (by decide)
    refine g_aload_n C 1 dX9_readPerson_18 rfl rfl ?_
    refine g_callVV C K (c_X10_advance W9 hLa0 hka0   hU) hLa0 hka0 (by decide) rfl v_9_82 rfl ⟨rfl, rfl⟩ ⟨Nat.le_of_ble_eq_true rfl, Nat.le_of_ble_eq_true rfl⟩ (Nat.le_of_ble_eq_true rfl) ⟨Nat.le_of_ble_eq_true rfl, Nat.le_of_ble_eq_true rfl⟩ dX9_readPerson_19 rfl (st := []) (fun I_22 J_23 h_24 => ?_)
    obtain ⟨hUI_22, hFI_22, hGJ_23, fx_21⟩ := h_24
    have hF_25 := fq_tr hF hFI_22 (by decide)
    have hG_26 := fq_tr hG hGJ_23 (by decide)
    obtain ⟨s_28, hs_28⟩ : ∃ z, TPq I_22 J_23 a0 b_5 b_6 b_7 b_8 b_9 = z := ⟨_, rfl⟩
    have c_27 : fAdvance (s_10) = s_28 := by have q := fx_21; simp only [etqa0, hs_10, hs_28] at q; exact q.symm
    have hs_29 : TBq I_22 J_23 b_1 b_4 b_2 b_11 = s_12 := (bq_fq wbqx_0 hFI_22 hGJ_23 (by decide) (by decide)).trans hs_12
    have hs_30 : CPq I_22 J_23 b_13 b_14 = s_15 := (cq_fq wcqx_1 hFI_22 hGJ_23 (by decide) (by decide)).trans hs_15
    have hs_31 : XPq I_22 J_23 x = s_16 := (xq_fq wxqx hFI_22 hGJ_23 (by decide) (by decide)).trans hs_16
    refine g_aload_n C 1 dX9_readPerson_22 rfl rfl ?_
    obtain ⟨y_32, hy_32⟩ : ∃ z, J_23 a0 10 = z := ⟨_, rfl⟩
    have f_33 : s_28.value = y_32 := (congrArg TP_.value hs_28).symm.trans hy_32
    refine g_getJ C K hLa0 hka0 f_9_71 (v := y_32) hy_32 dX9_readPerson_23 ?_
    refine g_lstore_n C dX9_readPerson_26 rfl (by decide) (lo2 := [(2, .long y_32), (0, .ref x), (1, .ref a0)]) rfl ?_
    refine g_aload_n C 1 dX9_readPerson_27 rfl rfl ?_
    refine g_aload_n C 2 dX9_readPerson_28 rfl rfl ?_
    refine g_callVI C K (c_X9_newName W9 hLx hkx hLa0 hka0  hUI_22) hLx hkx (by decide) rfl v_9_88 rfl ⟨rfl, rfl⟩ ⟨Nat.le_of_ble_eq_true rfl, Nat.le_of_ble_eq_true rfl⟩ (Nat.le_of_ble_eq_true rfl) ⟨Nat.le_of_ble_eq_true rfl, Nat.le_of_ble_eq_true rfl⟩ dX9_readPerson_29 rfl (st := []) (fun x_34 I_35 J_36 h_37 => ?_)
    obtain ⟨hUI_35, hFI_35, hGJ_36, rx_34, fx_34⟩ := h_37
    have hF_38 := fq_tr hF_25 hFI_35 (by decide)
    have hG_39 := fq_tr hG_26 hGJ_36 (by decide)
    obtain ⟨s_41, hs_41⟩ : ∃ z, TPq I_35 J_36 a0 b_5 b_6 b_7 b_8 b_9 = z := ⟨_, rfl⟩
    obtain ⟨s_42, hs_42⟩ : ∃ z, TBq I_35 J_36 b_1 b_4 b_2 b_11 = z := ⟨_, rfl⟩
    obtain ⟨s_43, hs_43⟩ : ∃ z, CPq I_35 J_36 b_13 b_14 = z := ⟨_, rfl⟩
    obtain ⟨s_44, hs_44⟩ : ∃ z, XPq I_35 J_36 x = z := ⟨_, rfl⟩
    have c_40 : fNewName (s_28) (s_12) (s_15) (s_16) = (x_34, s_41, s_42, s_43, s_44) := by have q := fx_34; simp only [etqa0, ebqx_0, dbqx_0, ecqx_1, dcqx_1, exqx, hs_28, hs_29, hs_30, hs_31, hs_41, hs_42, hs_43, hs_44] at q; exact q.symm
    refine g_if_ne C (tgt := 37) dX9_readPerson_32 (by decide) (fun h_45 => ?_) (fun h_45 => ?_)
    · skip
      have n_46 : ¬ x_34 = 0 := h_45
      have r_47 := ne_lo (lo := 1) n_46 rx_34 rc_0 rfl (by decide)
      refine g_aload_n C 2 dX9_readPerson_37 rfl rfl ?_
      refine g_iconst C (v := 0) dX9_readPerson_38 (by decide) ?_
      refine g_bipush C (v := 20) dX9_readPerson_39 (by decide) ?_
      refine g_callVI C K (c_X10_takeNumber W9 hLa0 hka0 0 20 (rg_w rc_0 (by decide) (by decide)) (rg_w rc_20 (by decide) (by decide)) hUI_35) hLa0 hka0 (by decide) rfl v_9_91 rfl ⟨rfl, rfl⟩ ⟨Nat.le_of_ble_eq_true rfl, Nat.le_of_ble_eq_true rfl⟩ (Nat.le_of_ble_eq_true rfl) ⟨Nat.le_of_ble_eq_true rfl, Nat.le_of_ble_eq_true rfl⟩ dX9_readPerson_41 rfl (st := []) (fun x_48 I_49 J_50 h_51 => ?_)
      obtain ⟨hUI_49, hFI_49, hGJ_50, rx_48, fx_48⟩ := h_51
      have hF_52 := fq_tr hF_38 hFI_49 (by decide)
      have hG_53 := fq_tr hG_39 hGJ_50 (by decide)
      obtain ⟨s_55, hs_55⟩ : ∃ z, TPq I_49 J_50 a0 b_5 b_6 b_7 b_8 b_9 = z := ⟨_, rfl⟩
      have c_54 : fTakeNumber (0) (20) (s_41) = (x_48, s_55) := by have q := fx_48; simp only [etqa0, hs_41, hs_55] at q; exact q.symm
      have hs_56 : TBq I_49 J_50 b_1 b_4 b_2 b_11 = s_42 := (bq_fq wbqx_0 hFI_49 hGJ_50 (by decide) (by decide)).trans hs_42
      have hs_57 : CPq I_49 J_50 b_13 b_14 = s_43 := (cq_fq wcqx_1 hFI_49 hGJ_50 (by decide) (by decide)).trans hs_43
      have hs_58 : XPq I_49 J_50 x = s_44 := (xq_fq wxqx hFI_49 hGJ_50 (by decide) (by decide)).trans hs_44
      refine g_istore C dX9_readPerson_44 (by decide) (lo2 := [(4, .int x_48), (2, .long y_32), (0, .ref x), (1, .ref a0)]) rfl ?_
      refine g_iload C 0 dX9_readPerson_46 rfl ?_
      refine g_iconst C (v := (-1)) dX9_readPerson_48 (by decide) ?_
      refine g_icmp_ne C (tgt := 54) dX9_readPerson_49 (by decide) (fun h_59 => ?_) (fun h_59 => ?_)
      · skip
        have n_60 : ¬ x_48 = (-1) := h_59
        refine g_iconst C (v := (-1)) dX9_readPerson_54 (by decide) ?_
        refine g_istore C dX9_readPerson_55 (by decide) (lo2 := [(5, .int (-1)), (4, .int x_48), (2, .long y_32), (0, .ref x), (1, .ref a0)]) rfl ?_
        refine g_aload_n C 4 dX9_readPerson_57 rfl rfl ?_
        obtain ⟨x_61, hx_61, rx_61⟩ := ex_get (I := I_49) (a := a0) (j := 8) (lo := (-2147483648)) (hi := 2147483647) hUI_49.1 hLa0 (ro_o hka0 (by decide)) rfl
        have f_62 : s_55.token = x_61 := (congrArg TP_.token hs_55).symm.trans hx_61
        refine g_getI C K hLa0 hka0 f_9_44 (v := x_61) hx_61 dX9_readPerson_58 ?_
        refine g_iconst C (v := 5) dX9_readPerson_61 (by decide) ?_
        refine g_icmp_ne C (tgt := 94) dX9_readPerson_62 (by decide) (fun h_63 => ?_) (fun h_63 => ?_)
        · skip
          have n_64 : ¬ x_61 = 5 := h_63
          refine g_aload_n C 3 dX9_readPerson_94 rfl rfl ?_
          refine g_getR C K hLx hkx f_9_12 hb_1 dX9_readPerson_95 ?_
          refine g_getR C K hb_1L hb_1k f_9_99 hb_4 dX9_readPerson_98 ?_
          refine g_aload_n C 3 dX9_readPerson_101 rfl rfl ?_
          refine g_getR C K hLx hkx f_9_12 hb_1 dX9_readPerson_102 ?_
          have f_65 : s_42.persons = x_17 := (congrArg TB_.persons hs_56).symm.trans (fq_at hFI_49 hb_1L hb_1k (by decide) (by decide) (fq_at hFI_35 hb_1L hb_1k (by decide) (by decide) (fq_at hFI_22 hb_1L hb_1k (by decide) (by decide) hx_17)))
          refine g_getI C K hb_1L hb_1k f_9_85 (v := x_17) (fq_at hFI_49 hb_1L hb_1k (by decide) (by decide) (fq_at hFI_35 hb_1L hb_1k (by decide) (by decide) (fq_at hFI_22 hb_1L hb_1k (by decide) (by decide) hx_17))) dX9_readPerson_105 ?_
          refine g_lload_n C 2 dX9_readPerson_108 rfl rfl ?_
          refine h_last C K hb_4L hb_4k (x_17.toNatClampNeg) (rfl) (ix_0 r_20 (by decide)) (ix_lt r_20 (by decide) hb_4n (by decide)) dX9_readPerson_109 (fun J_66 hJ_66 => ?_)
          have hG_67 := fq_puta hG_53 hJ_66 (ro_a hb_4k (by decide) hb_4o hb_1k rfl) (by decide) (by decide)
          have hs_68 : TPq I_49 J_66 a0 b_5 b_6 b_7 b_8 b_9 = s_55 := by rw [hJ_66]; exact (tq_oJ wtqa0 (ro_a hb_4k (by decide) hb_4o hb_1k rfl) (by decide)).trans hs_55
          have hs_69 : TBq I_49 J_66 b_1 b_4 b_2 b_11 = (TB_.w_pnm s_42 (up1 (s_42.pnm) (x_17.toNatClampNeg) (y_32))) := by rw [hJ_66]; exact ((bq_pnm wbqx_0).trans (congrArg (fun z : TB_ => TB_.w_pnm z (up1 (z.pnm) (x_17.toNatClampNeg) (y_32))) hs_56)).trans rfl
          have hs_70 : CPq I_49 J_66 b_13 b_14 = s_43 := by rw [hJ_66]; exact (cq_oJ wcqx_1 (ro_a hb_4k (by decide) hb_4o hb_1k rfl) (by decide)).trans hs_57
          have hs_71 : XPq I_49 J_66 x = s_44 := by rw [hJ_66]; exact (xq_oJ wxqx (ro_a hb_4k (by decide) hb_4o hb_1k rfl) (by decide)).trans hs_58
          refine g_aload_n C 3 dX9_readPerson_110 rfl rfl ?_
          refine g_getR C K hLx hkx f_9_12 hb_1 dX9_readPerson_111 ?_
          refine g_getR C K hb_1L hb_1k f_9_103 hb_3 dX9_readPerson_114 ?_
          refine g_aload_n C 3 dX9_readPerson_117 rfl rfl ?_
          refine g_getR C K hLx hkx f_9_12 hb_1 dX9_readPerson_118 ?_
          refine g_getI C K hb_1L hb_1k f_9_85 (v := x_17) (fq_at hFI_49 hb_1L hb_1k (by decide) (by decide) (fq_at hFI_35 hb_1L hb_1k (by decide) (by decide) (fq_at hFI_22 hb_1L hb_1k (by decide) (by decide) hx_17))) dX9_readPerson_121 ?_
          refine g_iload C 1 dX9_readPerson_124 rfl ?_
          refine h_iast C K hb_3L hb_3k (x_17.toNatClampNeg) (rfl) (ix_0 r_20 (by decide)) (ix_lt r_20 (by decide) hb_3n (by decide)) dX9_readPerson_126 (fun I_72 hI_72 => ?_)
          have hU_73 := iv_put W9 hUI_49 hI_72 (ro_a hb_3k (by decide) hb_3o hb_1k rfl) (lo := (-2147483648)) (hi := 2147483647) (rfl) (rx_48) rfl
          have hF_74 := fq_puta hF_52 hI_72 (ro_a hb_3k (by decide) hb_3o hb_1k rfl) (by decide) (by decide)
          have hs_75 : TPq I_72 J_66 a0 b_5 b_6 b_7 b_8 b_9 = s_55 := by rw [hI_72]; exact (tq_oI wtqa0 (ro_a hb_3k (by decide) hb_3o hb_1k rfl) (by decide)).trans hs_68
          have hs_76 : TBq I_72 J_66 b_1 b_4 b_2 b_11 = (TB_.w_pnm s_42 (up1 (s_42.pnm) (x_17.toNatClampNeg) (y_32))) := by rw [hI_72]; exact (bq_oI wbqx_0 (ro_a hb_3k (by decide) hb_3o hb_1k rfl) (by decide)).trans hs_69
          have hs_77 : CPq I_72 J_66 b_13 b_14 = s_43 := by rw [hI_72]; exact (cq_oI wcqx_1 (ro_a hb_3k (by decide) hb_3o hb_1k rfl) (by decide)).trans hs_70
          have hs_78 : XPq I_72 J_66 x = s_44 := by rw [hI_72]; exact (xq_oI wxqx (ro_a hb_3k (by decide) hb_3o hb_1k rfl) (by decide)).trans hs_71
          refine g_aload_n C 3 dX9_readPerson_127 rfl rfl ?_
          refine g_getR C K hLx hkx f_9_12 hb_1 dX9_readPerson_128 ?_
          refine g_getR C K hb_1L hb_1k f_9_107 hb_2 dX9_readPerson_131 ?_
          refine g_aload_n C 3 dX9_readPerson_134 rfl rfl ?_
          refine g_getR C K hLx hkx f_9_12 hb_1 dX9_readPerson_135 ?_
          have q_79 := (kp_k (κ := κ) hI_72 (by rw [hb_1k, hb_3k]; decide) (fq_at hFI_49 hb_1L hb_1k (by decide) (by decide) (fq_at hFI_35 hb_1L hb_1k (by decide) (by decide) (fq_at hFI_22 hb_1L hb_1k (by decide) (by decide) hx_17))))
          refine g_getI C K hb_1L hb_1k f_9_85 (v := x_17) q_79 dX9_readPerson_138 ?_
          refine g_iload C 0 dX9_readPerson_141 rfl ?_
          refine h_iast C K hb_2L hb_2k (x_17.toNatClampNeg) (rfl) (ix_0 r_20 (by decide)) (ix_lt r_20 (by decide) hb_2n (by decide)) dX9_readPerson_143 (fun I_80 hI_80 => ?_)
          have hU_81 := iv_put W9 hU_73 hI_80 (ro_a hb_2k (by decide) hb_2o hb_1k rfl) (lo := (-1)) (hi := 6) (rfl) (rg_w rc_m1 (by decide) (by decide)) rfl
          have hF_82 := fq_puta hF_74 hI_80 (ro_a hb_2k (by decide) hb_2o hb_1k rfl) (by decide) (by decide)
          have hs_83 : TPq I_80 J_66 a0 b_5 b_6 b_7 b_8 b_9 = s_55 := by rw [hI_80]; exact (tq_oI wtqa0 (ro_a hb_2k (by decide) hb_2o hb_1k rfl) (by decide)).trans hs_75
          have hs_84 : TBq I_80 J_66 b_1 b_4 b_2 b_11 = (TB_.w_par (TB_.w_pnm s_42 (up1 (s_42.pnm) (x_17.toNatClampNeg) (y_32))) (up1 (s_42.par) (x_17.toNatClampNeg) ((-1)))) := by rw [hI_80]; exact ((bq_par wbqx_0).trans (congrArg (fun z : TB_ => TB_.w_par z (up1 (z.par) (x_17.toNatClampNeg) ((-1)))) hs_76)).trans rfl
          have hs_85 : CPq I_80 J_66 b_13 b_14 = s_43 := by rw [hI_80]; exact (cq_oI wcqx_1 (ro_a hb_2k (by decide) hb_2o hb_1k rfl) (by decide)).trans hs_77
          have hs_86 : XPq I_80 J_66 x = s_44 := by rw [hI_80]; exact (xq_oI wxqx (ro_a hb_2k (by decide) hb_2o hb_1k rfl) (by decide)).trans hs_78
          refine g_aload_n C 3 dX9_readPerson_144 rfl rfl ?_
          refine g_getR C K hLx hkx f_9_12 hb_1 dX9_readPerson_145 ?_
          refine g_dup C dX9_readPerson_148 rfl ?_
          refine g_getI C K hb_1L hb_1k f_9_85 (v := x_17) (kp_k (κ := κ) hI_80 (by rw [hb_1k, hb_2k]; decide) q_79) dX9_readPerson_149 ?_
          refine g_iconst C (v := 1) dX9_readPerson_152 (by decide) ?_
          obtain ⟨x_87, hx_87, rx_87, tx_87⟩ := ex_add 1 7 r_20 rc_1 (by decide) (by decide) (by decide) (by decide)
          refine g_iadd C (v := x_87) dX9_readPerson_153 hx_87 ?_
          refine h_putI C K hb_1L hb_1k f_9_85 p_8_5 dX9_readPerson_154 (fun I_88 hI_88 => ?_)
          have hU_89 := iv_put W9 hU_81 hI_88 (ro_o hb_1k (by decide)) (lo := 0) (hi := 7) (rfl) (rg_w rx_87 (by decide) (by decide)) rfl
          have hF_90 := fq_puto hF_82 hI_88 hb_1k (by decide) (by decide)
          have hs_91 : TPq I_88 J_66 a0 b_5 b_6 b_7 b_8 b_9 = s_55 := by rw [hI_88]; exact (tq_oI wtqa0 (ro_o hb_1k (by decide)) (by decide)).trans hs_83
          have hs_92 : TBq I_88 J_66 b_1 b_4 b_2 b_11 = (TB_.w_persons (TB_.w_par (TB_.w_pnm s_42 (up1 (s_42.pnm) (x_17.toNatClampNeg) (y_32))) (up1 (s_42.par) (x_17.toNatClampNeg) ((-1)))) (x_87)) := by rw [hI_88]; exact ((bq_persons wbqx_0).trans (congrArg (fun z : TB_ => TB_.w_persons z (x_87)) hs_84)).trans rfl
          have hs_93 : CPq I_88 J_66 b_13 b_14 = s_43 := by rw [hI_88]; exact (cq_oI wcqx_1 (ro_o hb_1k (by decide)) (by decide)).trans hs_85
          have hs_94 : XPq I_88 J_66 x = s_44 := by rw [hI_88]; exact (xq_oI wxqx (ro_o hb_1k (by decide)) (by decide)).trans hs_86
          refine g_aload_n C 4 dX9_readPerson_157 rfl rfl ?_
          refine g_bipush C (v := 59) dX9_readPerson_158 (by decide) ?_
          refine g_callVI C K (c_X10_take W9 hLa0 hka0 59 (rg_w rc_59 (by decide) (by decide)) hU_89) hLa0 hka0 (by decide) rfl v_9_110 rfl ⟨rfl, rfl⟩ ⟨Nat.le_of_ble_eq_true rfl, Nat.le_of_ble_eq_true rfl⟩ (Nat.le_of_ble_eq_true rfl) ⟨Nat.le_of_ble_eq_true rfl, Nat.le_of_ble_eq_true rfl⟩ dX9_readPerson_160 rfl (st := []) (fun x_95 I_96 J_97 h_98 => ?_)
          obtain ⟨hUI_96, hFI_96, hGJ_97, rx_95, fx_95⟩ := h_98
          have hF_99 := fq_tr hF_90 hFI_96 (by decide)
          have hG_100 := fq_tr hG_67 hGJ_97 (by decide)
          obtain ⟨s_102, hs_102⟩ : ∃ z, TPq I_96 J_97 a0 b_5 b_6 b_7 b_8 b_9 = z := ⟨_, rfl⟩
          have c_101 : fTake (59) (s_55) = (x_95, s_102) := by have q := fx_95; simp only [etqa0, hs_91, hs_102] at q; exact q.symm
          have hs_103 : TBq I_96 J_97 b_1 b_4 b_2 b_11 = (TB_.w_persons (TB_.w_par (TB_.w_pnm s_42 (up1 (s_42.pnm) (x_17.toNatClampNeg) (y_32))) (up1 (s_42.par) (x_17.toNatClampNeg) ((-1)))) (x_87)) := (bq_fq wbqx_0 hFI_96 hGJ_97 (by decide) (by decide)).trans hs_92
          have hs_104 : CPq I_96 J_97 b_13 b_14 = s_43 := (cq_fq wcqx_1 hFI_96 hGJ_97 (by decide) (by decide)).trans hs_93
          have hs_105 : XPq I_96 J_97 x = s_44 := (xq_fq wxqx hFI_96 hGJ_97 (by decide) (by decide)).trans hs_94
          exact g_zret (ty := .boolean) (r := x_95) B K rfl (nar_z (rx_95)) ⟨hUI_96, hF_99, hG_100, rx_95, (by simp only [fReadPerson, fFailR, fTakeR, fPutPerson, fPutDish, fReadPlate3, etqa0, hs_102, hs_10, ebqx_0, dbqx_0, hs_103, hs_12, ecqx_1, dcqx_1, hs_104, hs_15, exqx, hs_105, hs_16, hx_17, f_18, h_19, c_27, hy_32, f_33, c_40, h_45, c_54, h_59, hx_61, f_62, h_63, f_65, hx_87, c_101, if_true, if_false, bqM_pnm, bqM_par, bqM_dnm, bqM_persons, bqM_dishes, bqM_law, bqM_dogs, TB_.w_pnm, TB_.w_par, TB_.w_dnm, TB_.w_persons, TB_.w_dishes, TB_.w_law, TB_.w_dogs, cqM_pcs, CP_.w_pcs, tqM_by_, tqM_wd, tqM_tk, tqM_pl, tqM_vl, tqM_len, tqM_n, tqM_at_, tqM_token, tqM_place, tqM_value, tqM_fault, tqM_fat, TP_.w_by_, TP_.w_wd, TP_.w_tk, TP_.w_pl, TP_.w_vl, TP_.w_len, TP_.w_n, TP_.w_at_, TP_.w_token, TP_.w_place, TP_.w_value, TP_.w_fault, TP_.w_fat, xqM_lt, xqM_dt, XP_.w_lt, XP_.w_dt])⟩ dX9_readPerson_163
        · skip
          have r_106 := (⟨(eq_rg (h_63) rc_5).1, (eq_rg (h_63) rc_5).2⟩ : Rg 5 5 x_61)
          refine g_aload_n C 4 dX9_readPerson_65 rfl rfl ?_
          refine g_callVV C K (c_X10_advance W9 hLa0 hka0   hUI_49) hLa0 hka0 (by decide) rfl v_9_82 rfl ⟨rfl, rfl⟩ ⟨Nat.le_of_ble_eq_true rfl, Nat.le_of_ble_eq_true rfl⟩ (Nat.le_of_ble_eq_true rfl) ⟨Nat.le_of_ble_eq_true rfl, Nat.le_of_ble_eq_true rfl⟩ dX9_readPerson_66 rfl (st := []) (fun I_108 J_109 h_110 => ?_)
          obtain ⟨hUI_108, hFI_108, hGJ_109, fx_107⟩ := h_110
          have hF_111 := fq_tr hF_52 hFI_108 (by decide)
          have hG_112 := fq_tr hG_53 hGJ_109 (by decide)
          obtain ⟨s_114, hs_114⟩ : ∃ z, TPq I_108 J_109 a0 b_5 b_6 b_7 b_8 b_9 = z := ⟨_, rfl⟩
          have c_113 : fAdvance (s_55) = s_114 := by have q := fx_107; simp only [etqa0, hs_55, hs_114] at q; exact q.symm
          have hs_115 : TBq I_108 J_109 b_1 b_4 b_2 b_11 = s_42 := (bq_fq wbqx_0 hFI_108 hGJ_109 (by decide) (by decide)).trans hs_56
          have hs_116 : CPq I_108 J_109 b_13 b_14 = s_43 := (cq_fq wcqx_1 hFI_108 hGJ_109 (by decide) (by decide)).trans hs_57
          have hs_117 : XPq I_108 J_109 x = s_44 := (xq_fq wxqx hFI_108 hGJ_109 (by decide) (by decide)).trans hs_58
          refine g_aload_n C 4 dX9_readPerson_69 rfl rfl ?_
          refine g_aload_n C 3 dX9_readPerson_70 rfl rfl ?_
          refine g_getR C K hLx hkx f_9_12 hb_1 dX9_readPerson_71 ?_
          refine g_aload_n C 4 dX9_readPerson_74 rfl rfl ?_
          obtain ⟨y_118, hy_118⟩ : ∃ z, J_109 a0 10 = z := ⟨_, rfl⟩
          have f_119 : s_114.value = y_118 := (congrArg TP_.value hs_114).symm.trans hy_118
          refine g_getJ C K hLa0 hka0 f_9_71 (v := y_118) hy_118 dX9_readPerson_75 ?_
          refine g_callVI C K (c_X8_personNamed W9 hb_1L hb_1k y_118  hUI_108) hb_1L hb_1k (by decide) rfl v_9_75 rfl ⟨rfl, rfl⟩ ⟨Nat.le_of_ble_eq_true rfl, Nat.le_of_ble_eq_true rfl⟩ (Nat.le_of_ble_eq_true rfl) ⟨Nat.le_of_ble_eq_true rfl, Nat.le_of_ble_eq_true rfl⟩ dX9_readPerson_78 rfl (st := [.ref a0]) (fun x_120 I_121 J_122 h_123 => ?_)
          obtain ⟨rfl, rfl, rx_120, fx_120⟩ := h_123
          have c_124 : fPersonNamed (y_118) (s_42) = x_120 := by have q := fx_120; simp only [ebqx_0, dbqx_0, hs_115] at q; exact q.symm
          refine g_callVI C K (c_X10_takeName W9 hLa0 hka0 x_120 (rx_120) hUI_108) hLa0 hka0 (by decide) rfl v_9_95 rfl ⟨rfl, rfl⟩ ⟨Nat.le_of_ble_eq_true rfl, Nat.le_of_ble_eq_true rfl⟩ (Nat.le_of_ble_eq_true rfl) ⟨Nat.le_of_ble_eq_true rfl, Nat.le_of_ble_eq_true rfl⟩ dX9_readPerson_81 rfl (st := []) (fun x_125 I_126 J_127 h_128 => ?_)
          obtain ⟨hUI_126, hFI_126, hGJ_127, rx_125, fx_125, ex_125⟩ := h_128
          have hF_129 := fq_tr hF_111 hFI_126 (by decide)
          have hG_130 := fq_tr hG_112 hGJ_127 (by decide)
          obtain ⟨s_132, hs_132⟩ : ∃ z, TPq I_126 J_127 a0 b_5 b_6 b_7 b_8 b_9 = z := ⟨_, rfl⟩
          have c_131 : fTakeName (x_120) (s_114) = (x_125, s_132) := by have q := fx_125; simp only [etqa0, hs_114, hs_132] at q; exact q.symm
          have hs_133 : TBq I_126 J_127 b_1 b_4 b_2 b_11 = s_42 := (bq_fq wbqx_0 hFI_126 hGJ_127 (by decide) (by decide)).trans hs_115
          have hs_134 : CPq I_126 J_127 b_13 b_14 = s_43 := (cq_fq wcqx_1 hFI_126 hGJ_127 (by decide) (by decide)).trans hs_116
          have hs_135 : XPq I_126 J_127 x = s_44 := (xq_fq wxqx hFI_126 hGJ_127 (by decide) (by decide)).trans hs_117
          have r_136 : Rg (-1) 6 x_125 := rg_or ex_125 (rx_120) (by decide) (by decide)
          refine g_istore C dX9_readPerson_84 (by decide) (lo2 := [(5, .int x_125), (4, .int x_48), (2, .long y_32), (0, .ref x), (1, .ref a0)]) rfl ?_
          refine g_iload C 0 dX9_readPerson_86 rfl ?_
          refine g_iconst C (v := (-1)) dX9_readPerson_88 (by decide) ?_
          refine g_icmp_ne C (tgt := 94) dX9_readPerson_89 (by decide) (fun h_137 => ?_) (fun h_137 => ?_)
          · skip
            have n_138 : ¬ x_125 = (-1) := h_137
            have r_139 := ne_lo (lo := 0) n_138 r_136 rc_m1 rfl (by decide)
            have r_140 := eq_rg (Eq.symm (Or.resolve_left ex_125 (rg_nek r_139 rc_m1 (by decide)))) r_139
            refine g_aload_n C 3 dX9_readPerson_94 rfl rfl ?_
            refine g_getR C K hLx hkx f_9_12 hb_1 dX9_readPerson_95 ?_
            refine g_getR C K hb_1L hb_1k f_9_99 hb_4 dX9_readPerson_98 ?_
            refine g_aload_n C 3 dX9_readPerson_101 rfl rfl ?_
            refine g_getR C K hLx hkx f_9_12 hb_1 dX9_readPerson_102 ?_
            have q_141 := (fq_at hFI_126 hb_1L hb_1k (by decide) (by decide) (fq_at hFI_108 hb_1L hb_1k (by decide) (by decide) (fq_at hFI_49 hb_1L hb_1k (by decide) (by decide) (fq_at hFI_35 hb_1L hb_1k (by decide) (by decide) (fq_at hFI_22 hb_1L hb_1k (by decide) (by decide) hx_17)))))
            have f_142 : s_42.persons = x_17 := (congrArg TB_.persons hs_133).symm.trans q_141
            refine g_getI C K hb_1L hb_1k f_9_85 (v := x_17) q_141 dX9_readPerson_105 ?_
            refine g_lload_n C 2 dX9_readPerson_108 rfl rfl ?_
            refine h_last C K hb_4L hb_4k (x_17.toNatClampNeg) (rfl) (ix_0 r_20 (by decide)) (ix_lt r_20 (by decide) hb_4n (by decide)) dX9_readPerson_109 (fun J_143 hJ_143 => ?_)
            have hG_144 := fq_puta hG_130 hJ_143 (ro_a hb_4k (by decide) hb_4o hb_1k rfl) (by decide) (by decide)
            have hs_145 : TPq I_126 J_143 a0 b_5 b_6 b_7 b_8 b_9 = s_132 := by rw [hJ_143]; exact (tq_oJ wtqa0 (ro_a hb_4k (by decide) hb_4o hb_1k rfl) (by decide)).trans hs_132
            have hs_146 : TBq I_126 J_143 b_1 b_4 b_2 b_11 = (TB_.w_pnm s_42 (up1 (s_42.pnm) (x_17.toNatClampNeg) (y_32))) := by rw [hJ_143]; exact ((bq_pnm wbqx_0).trans (congrArg (fun z : TB_ => TB_.w_pnm z (up1 (z.pnm) (x_17.toNatClampNeg) (y_32))) hs_133)).trans rfl
            have hs_147 : CPq I_126 J_143 b_13 b_14 = s_43 := by rw [hJ_143]; exact (cq_oJ wcqx_1 (ro_a hb_4k (by decide) hb_4o hb_1k rfl) (by decide)).trans hs_134
            have hs_148 : XPq I_126 J_143 x = s_44 := by rw [hJ_143]; exact (xq_oJ wxqx (ro_a hb_4k (by decide) hb_4o hb_1k rfl) (by decide)).trans hs_135
            refine g_aload_n C 3 dX9_readPerson_110 rfl rfl ?_
            refine g_getR C K hLx hkx f_9_12 hb_1 dX9_readPerson_111 ?_
            refine g_getR C K hb_1L hb_1k f_9_103 hb_3 dX9_readPerson_114 ?_
            refine g_aload_n C 3 dX9_readPerson_117 rfl rfl ?_
            refine g_getR C K hLx hkx f_9_12 hb_1 dX9_readPerson_118 ?_
            refine g_getI C K hb_1L hb_1k f_9_85 (v := x_17) q_141 dX9_readPerson_121 ?_
            refine g_iload C 1 dX9_readPerson_124 rfl ?_
            refine h_iast C K hb_3L hb_3k (x_17.toNatClampNeg) (rfl) (ix_0 r_20 (by decide)) (ix_lt r_20 (by decide) hb_3n (by decide)) dX9_readPerson_126 (fun I_149 hI_149 => ?_)
            have hU_150 := iv_put W9 hUI_126 hI_149 (ro_a hb_3k (by decide) hb_3o hb_1k rfl) (lo := (-2147483648)) (hi := 2147483647) (rfl) (rx_48) rfl
            have hF_151 := fq_puta hF_129 hI_149 (ro_a hb_3k (by decide) hb_3o hb_1k rfl) (by decide) (by decide)
            have hs_152 : TPq I_149 J_143 a0 b_5 b_6 b_7 b_8 b_9 = s_132 := by rw [hI_149]; exact (tq_oI wtqa0 (ro_a hb_3k (by decide) hb_3o hb_1k rfl) (by decide)).trans hs_145
            have hs_153 : TBq I_149 J_143 b_1 b_4 b_2 b_11 = (TB_.w_pnm s_42 (up1 (s_42.pnm) (x_17.toNatClampNeg) (y_32))) := by rw [hI_149]; exact (bq_oI wbqx_0 (ro_a hb_3k (by decide) hb_3o hb_1k rfl) (by decide)).trans hs_146
            have hs_154 : CPq I_149 J_143 b_13 b_14 = s_43 := by rw [hI_149]; exact (cq_oI wcqx_1 (ro_a hb_3k (by decide) hb_3o hb_1k rfl) (by decide)).trans hs_147
            have hs_155 : XPq I_149 J_143 x = s_44 := by rw [hI_149]; exact (xq_oI wxqx (ro_a hb_3k (by decide) hb_3o hb_1k rfl) (by decide)).trans hs_148
            refine g_aload_n C 3 dX9_readPerson_127 rfl rfl ?_
            refine g_getR C K hLx hkx f_9_12 hb_1 dX9_readPerson_128 ?_
            refine g_getR C K hb_1L hb_1k f_9_107 hb_2 dX9_readPerson_131 ?_
            refine g_aload_n C 3 dX9_readPerson_134 rfl rfl ?_
            refine g_getR C K hLx hkx f_9_12 hb_1 dX9_readPerson_135 ?_
            refine g_getI C K hb_1L hb_1k f_9_85 (v := x_17) (kp_k (κ := κ) hI_149 (by rw [hb_1k, hb_3k]; decide) q_141) dX9_readPerson_138 ?_
            refine g_iload C 0 dX9_readPerson_141 rfl ?_
            refine h_iast C K hb_2L hb_2k (x_17.toNatClampNeg) (rfl) (ix_0 r_20 (by decide)) (ix_lt r_20 (by decide) hb_2n (by decide)) dX9_readPerson_143 (fun I_156 hI_156 => ?_)
            have hU_157 := iv_put W9 hU_150 hI_156 (ro_a hb_2k (by decide) hb_2o hb_1k rfl) (lo := (-1)) (hi := 6) (rfl) (rg_w r_139 (by decide) (by decide)) rfl
            have hF_158 := fq_puta hF_151 hI_156 (ro_a hb_2k (by decide) hb_2o hb_1k rfl) (by decide) (by decide)
            have hs_159 : TPq I_156 J_143 a0 b_5 b_6 b_7 b_8 b_9 = s_132 := by rw [hI_156]; exact (tq_oI wtqa0 (ro_a hb_2k (by decide) hb_2o hb_1k rfl) (by decide)).trans hs_152
            have hs_160 : TBq I_156 J_143 b_1 b_4 b_2 b_11 = (TB_.w_par (TB_.w_pnm s_42 (up1 (s_42.pnm) (x_17.toNatClampNeg) (y_32))) (up1 (s_42.par) (x_17.toNatClampNeg) (x_125))) := by rw [hI_156]; exact ((bq_par wbqx_0).trans (congrArg (fun z : TB_ => TB_.w_par z (up1 (z.par) (x_17.toNatClampNeg) (x_125))) hs_153)).trans rfl
            have hs_161 : CPq I_156 J_143 b_13 b_14 = s_43 := by rw [hI_156]; exact (cq_oI wcqx_1 (ro_a hb_2k (by decide) hb_2o hb_1k rfl) (by decide)).trans hs_154
            have hs_162 : XPq I_156 J_143 x = s_44 := by rw [hI_156]; exact (xq_oI wxqx (ro_a hb_2k (by decide) hb_2o hb_1k rfl) (by decide)).trans hs_155
            refine g_aload_n C 3 dX9_readPerson_144 rfl rfl ?_
            refine g_getR C K hLx hkx f_9_12 hb_1 dX9_readPerson_145 ?_
            refine g_dup C dX9_readPerson_148 rfl ?_
            refine g_getI C K hb_1L hb_1k f_9_85 (v := x_17) (kp_k (κ := κ) hI_156 (by rw [hb_1k, hb_2k]; decide) (kp_k (κ := κ) hI_149 (by rw [hb_1k, hb_3k]; decide) q_141)) dX9_readPerson_149 ?_
            refine g_iconst C (v := 1) dX9_readPerson_152 (by decide) ?_
            obtain ⟨x_163, hx_163, rx_163, tx_163⟩ := ex_add 1 7 r_20 rc_1 (by decide) (by decide) (by decide) (by decide)
            refine g_iadd C (v := x_163) dX9_readPerson_153 hx_163 ?_
            refine h_putI C K hb_1L hb_1k f_9_85 p_8_5 dX9_readPerson_154 (fun I_164 hI_164 => ?_)
            have hU_165 := iv_put W9 hU_157 hI_164 (ro_o hb_1k (by decide)) (lo := 0) (hi := 7) (rfl) (rg_w rx_163 (by decide) (by decide)) rfl
            have hF_166 := fq_puto hF_158 hI_164 hb_1k (by decide) (by decide)
            have hs_167 : TPq I_164 J_143 a0 b_5 b_6 b_7 b_8 b_9 = s_132 := by rw [hI_164]; exact (tq_oI wtqa0 (ro_o hb_1k (by decide)) (by decide)).trans hs_159
            have hs_168 : TBq I_164 J_143 b_1 b_4 b_2 b_11 = (TB_.w_persons (TB_.w_par (TB_.w_pnm s_42 (up1 (s_42.pnm) (x_17.toNatClampNeg) (y_32))) (up1 (s_42.par) (x_17.toNatClampNeg) (x_125))) (x_163)) := by rw [hI_164]; exact ((bq_persons wbqx_0).trans (congrArg (fun z : TB_ => TB_.w_persons z (x_163)) hs_160)).trans rfl
            have hs_169 : CPq I_164 J_143 b_13 b_14 = s_43 := by rw [hI_164]; exact (cq_oI wcqx_1 (ro_o hb_1k (by decide)) (by decide)).trans hs_161
            have hs_170 : XPq I_164 J_143 x = s_44 := by rw [hI_164]; exact (xq_oI wxqx (ro_o hb_1k (by decide)) (by decide)).trans hs_162
            refine g_aload_n C 4 dX9_readPerson_157 rfl rfl ?_
            refine g_bipush C (v := 59) dX9_readPerson_158 (by decide) ?_
            refine g_callVI C K (c_X10_take W9 hLa0 hka0 59 (rg_w rc_59 (by decide) (by decide)) hU_165) hLa0 hka0 (by decide) rfl v_9_110 rfl ⟨rfl, rfl⟩ ⟨Nat.le_of_ble_eq_true rfl, Nat.le_of_ble_eq_true rfl⟩ (Nat.le_of_ble_eq_true rfl) ⟨Nat.le_of_ble_eq_true rfl, Nat.le_of_ble_eq_true rfl⟩ dX9_readPerson_160 rfl (st := []) (fun x_171 I_172 J_173 h_174 => ?_)
            obtain ⟨hUI_172, hFI_172, hGJ_173, rx_171, fx_171⟩ := h_174
            have hF_175 := fq_tr hF_166 hFI_172 (by decide)
            have hG_176 := fq_tr hG_144 hGJ_173 (by decide)
            obtain ⟨s_178, hs_178⟩ : ∃ z, TPq I_172 J_173 a0 b_5 b_6 b_7 b_8 b_9 = z := ⟨_, rfl⟩
            have c_177 : fTake (59) (s_132) = (x_171, s_178) := by have q := fx_171; simp only [etqa0, hs_167, hs_178] at q; exact q.symm
            have hs_179 : TBq I_172 J_173 b_1 b_4 b_2 b_11 = (TB_.w_persons (TB_.w_par (TB_.w_pnm s_42 (up1 (s_42.pnm) (x_17.toNatClampNeg) (y_32))) (up1 (s_42.par) (x_17.toNatClampNeg) (x_125))) (x_163)) := (bq_fq wbqx_0 hFI_172 hGJ_173 (by decide) (by decide)).trans hs_168
            have hs_180 : CPq I_172 J_173 b_13 b_14 = s_43 := (cq_fq wcqx_1 hFI_172 hGJ_173 (by decide) (by decide)).trans hs_169
            have hs_181 : XPq I_172 J_173 x = s_44 := (xq_fq wxqx hFI_172 hGJ_173 (by decide) (by decide)).trans hs_170
            exact g_zret (ty := .boolean) (r := x_171) B K rfl (nar_z (rx_171)) ⟨hUI_172, hF_175, hG_176, rx_171, (by simp only [fReadPerson, fFailR, fTakeR, fPutPerson, fPutDish, fReadPlate3, etqa0, hs_178, hs_10, ebqx_0, dbqx_0, hs_179, hs_12, ecqx_1, dcqx_1, hs_180, hs_15, exqx, hs_181, hs_16, hx_17, f_18, h_19, c_27, hy_32, f_33, c_40, h_45, c_54, h_59, hx_61, f_62, (eq_true h_63), c_113, hy_118, f_119, c_124, c_131, h_137, f_142, hx_163, c_177, if_true, if_false, bqM_pnm, bqM_par, bqM_dnm, bqM_persons, bqM_dishes, bqM_law, bqM_dogs, TB_.w_pnm, TB_.w_par, TB_.w_dnm, TB_.w_persons, TB_.w_dishes, TB_.w_law, TB_.w_dogs, cqM_pcs, CP_.w_pcs, tqM_by_, tqM_wd, tqM_tk, tqM_pl, tqM_vl, tqM_len, tqM_n, tqM_at_, tqM_token, tqM_place, tqM_value, tqM_fault, tqM_fat, TP_.w_by_, TP_.w_wd, TP_.w_tk, TP_.w_pl, TP_.w_vl, TP_.w_len, TP_.w_n, TP_.w_at_, TP_.w_token, TP_.w_place, TP_.w_value, TP_.w_fault, TP_.w_fat, xqM_lt, xqM_dt, XP_.w_lt, XP_.w_dt])⟩ dX9_readPerson_163
          · skip
            have r_182 := (⟨(r_136).1, (eq_rg (h_137) rc_m1).2⟩ : Rg (-1) (-1) x_125)
            refine g_iconst C (v := 0) dX9_readPerson_92 (by decide) ?_
            exact g_zret (ty := .boolean) (r := 0) B K rfl (rfl) ⟨hUI_126, hF_129, hG_130, rg_w rc_0 (by decide) (by decide), (by simp only [fReadPerson, fFailR, fTakeR, fPutPerson, fPutDish, fReadPlate3, etqa0, hs_132, hs_10, ebqx_0, dbqx_0, hs_133, hs_12, ecqx_1, dcqx_1, hs_134, hs_15, exqx, hs_135, hs_16, hx_17, f_18, h_19, c_27, hy_32, f_33, c_40, h_45, c_54, h_59, hx_61, f_62, (eq_true h_63), c_113, hy_118, f_119, c_124, c_131, (eq_true h_137), if_true, if_false, bqM_pnm, bqM_par, bqM_dnm, bqM_persons, bqM_dishes, bqM_law, bqM_dogs, TB_.w_pnm, TB_.w_par, TB_.w_dnm, TB_.w_persons, TB_.w_dishes, TB_.w_law, TB_.w_dogs, cqM_pcs, CP_.w_pcs, tqM_by_, tqM_wd, tqM_tk, tqM_pl, tqM_vl, tqM_len, tqM_n, tqM_at_, tqM_token, tqM_place, tqM_value, tqM_fault, tqM_fat, TP_.w_by_, TP_.w_wd, TP_.w_tk, TP_.w_pl, TP_.w_vl, TP_.w_len, TP_.w_n, TP_.w_at_, TP_.w_token, TP_.w_place, TP_.w_value, TP_.w_fault, TP_.w_fat, xqM_lt, xqM_dt, XP_.w_lt, XP_.w_dt])⟩ dX9_readPerson_93
      · skip
        have r_183 := (⟨(eq_rg (h_59) rc_m1).1, (eq_rg (h_59) rc_m1).2⟩ : Rg (-1) (-1) x_48)
        refine g_iconst C (v := 0) dX9_readPerson_52 (by decide) ?_
        exact g_zret (ty := .boolean) (r := 0) B K rfl (rfl) ⟨hUI_49, hF_52, hG_53, rg_w rc_0 (by decide) (by decide), (by simp only [fReadPerson, fFailR, fTakeR, fPutPerson, fPutDish, fReadPlate3, etqa0, hs_55, hs_10, ebqx_0, dbqx_0, hs_56, hs_12, ecqx_1, dcqx_1, hs_57, hs_15, exqx, hs_58, hs_16, hx_17, f_18, h_19, c_27, hy_32, f_33, c_40, h_45, c_54, (eq_true h_59), if_true, if_false, bqM_pnm, bqM_par, bqM_dnm, bqM_persons, bqM_dishes, bqM_law, bqM_dogs, TB_.w_pnm, TB_.w_par, TB_.w_dnm, TB_.w_persons, TB_.w_dishes, TB_.w_law, TB_.w_dogs, cqM_pcs, CP_.w_pcs, tqM_by_, tqM_wd, tqM_tk, tqM_pl, tqM_vl, tqM_len, tqM_n, tqM_at_, tqM_token, tqM_place, tqM_value, tqM_fault, tqM_fat, TP_.w_by_, TP_.w_wd, TP_.w_tk, TP_.w_pl, TP_.w_vl, TP_.w_len, TP_.w_n, TP_.w_at_, TP_.w_token, TP_.w_place, TP_.w_value, TP_.w_fault, TP_.w_fat, xqM_lt, xqM_dt, XP_.w_lt, XP_.w_dt])⟩ dX9_readPerson_53
    · skip
      have r_184 := (⟨(rx_34).1, (eq_rg (h_45) rc_0).2⟩ : Rg 0 0 x_34)
      refine g_iconst C (v := 0) dX9_readPerson_35 (by decide) ?_
      exact g_zret (ty := .boolean) (r := 0) B K rfl (rfl) ⟨hUI_35, hF_38, hG_39, rg_w rc_0 (by decide) (by decide), (by simp only [fReadPerson, fFailR, fTakeR, fPutPerson, fPutDish, fReadPlate3, etqa0, hs_41, hs_10, ebqx_0, dbqx_0, hs_42, hs_12, ecqx_1, dcqx_1, hs_43, hs_15, exqx, hs_44, hs_16, hx_17, f_18, h_19, c_27, hy_32, f_33, c_40, (eq_true h_45), if_true, if_false, bqM_pnm, bqM_par, bqM_dnm, bqM_persons, bqM_dishes, bqM_law, bqM_dogs, TB_.w_pnm, TB_.w_par, TB_.w_dnm, TB_.w_persons, TB_.w_dishes, TB_.w_law, TB_.w_dogs, cqM_pcs, CP_.w_pcs, tqM_by_, tqM_wd, tqM_tk, tqM_pl, tqM_vl, tqM_len, tqM_n, tqM_at_, tqM_token, tqM_place, tqM_value, tqM_fault, tqM_fat, TP_.w_by_, TP_.w_wd, TP_.w_tk, TP_.w_pl, TP_.w_vl, TP_.w_len, TP_.w_n, TP_.w_at_, TP_.w_token, TP_.w_place, TP_.w_value, TP_.w_fault, TP_.w_fat, xqM_lt, xqM_dt, XP_.w_lt, XP_.w_dt])⟩ dX9_readPerson_36
  · skip
    have r_185 := le_r (nlt h_19) rc_7 rx_17
    refine g_aload_n C 1 dX9_readPerson_12 rfl rfl ?_
    refine g_iconst C (v := 4) dX9_readPerson_13 (by decide) ?_
    refine g_callVI C K (c_X10_fail W9 hLa0 hka0 4 (rg_w rc_4 (by decide) (by decide)) hU) hLa0 hka0 (by decide) rfl v_9_67 rfl ⟨rfl, rfl⟩ ⟨Nat.le_of_ble_eq_true rfl, Nat.le_of_ble_eq_true rfl⟩ (Nat.le_of_ble_eq_true rfl) ⟨Nat.le_of_ble_eq_true rfl, Nat.le_of_ble_eq_true rfl⟩ dX9_readPerson_14 rfl (st := []) (fun x_186 I_187 J_188 h_189 => ?_)
    obtain ⟨hUI_187, hFI_187, hGJ_188, rx_186, fx_186⟩ := h_189
    have hF_190 := fq_tr hF hFI_187 (by decide)
    have hG_191 := fq_tr hG hGJ_188 (by decide)
    obtain ⟨s_193, hs_193⟩ : ∃ z, TPq I_187 J_188 a0 b_5 b_6 b_7 b_8 b_9 = z := ⟨_, rfl⟩
    have c_192 : fFail (4) (s_10) = (x_186, s_193) := by have q := fx_186; simp only [etqa0, hs_10, hs_193] at q; exact q.symm
    have hs_194 : TBq I_187 J_188 b_1 b_4 b_2 b_11 = s_12 := (bq_fq wbqx_0 hFI_187 hGJ_188 (by decide) (by decide)).trans hs_12
    have hs_195 : CPq I_187 J_188 b_13 b_14 = s_15 := (cq_fq wcqx_1 hFI_187 hGJ_188 (by decide) (by decide)).trans hs_15
    have hs_196 : XPq I_187 J_188 x = s_16 := (xq_fq wxqx hFI_187 hGJ_188 (by decide) (by decide)).trans hs_16
    exact g_zret (ty := .boolean) (r := x_186) B K rfl (nar_z (rg_w rx_186 (by decide) (by decide))) ⟨hUI_187, hF_190, hG_191, rg_w rx_186 (by decide) (by decide), (by simp only [fReadPerson, fFailR, fTakeR, fPutPerson, fPutDish, fReadPlate3, etqa0, hs_193, hs_10, ebqx_0, dbqx_0, hs_194, hs_12, ecqx_1, dcqx_1, hs_195, hs_15, exqx, hs_196, hs_16, hx_17, f_18, h_19, (nlt h_19), c_192, if_true, if_false, bqM_pnm, bqM_par, bqM_dnm, bqM_persons, bqM_dishes, bqM_law, bqM_dogs, TB_.w_pnm, TB_.w_par, TB_.w_dnm, TB_.w_persons, TB_.w_dishes, TB_.w_law, TB_.w_dogs, cqM_pcs, CP_.w_pcs, tqM_by_, tqM_wd, tqM_tk, tqM_pl, tqM_vl, tqM_len, tqM_n, tqM_at_, tqM_token, tqM_place, tqM_value, tqM_fault, tqM_fat, TP_.w_by_, TP_.w_wd, TP_.w_tk, TP_.w_pl, TP_.w_vl, TP_.w_len, TP_.w_n, TP_.w_at_, TP_.w_token, TP_.w_place, TP_.w_value, TP_.w_fault, TP_.w_fat, xqM_lt, xqM_dt, XP_.w_lt, XP_.w_dt])⟩ dX9_readPerson_17
set_option maxRecDepth 100000 in
set_option maxHeartbeats 8000000 in
theorem c_X1_addToPlate {l : Launch} {D : va_G} {cy : Nat → ClassId} {L : List Nat} {κ ln : Nat → Nat} {R : Nat → Nat → Option Nat} {I : Nat → Nat → Int32} {J : Nat → Nat → Int64} {ow : Nat → Nat × Nat} (W9 : ∀ a ∈ L, Shp L κ ln R ow a) {x : Nat} (hLx : x ∈ L) (hkx : κ x = 1) (a0 : Int32) (a1 : Int32) (a2 : Int32) (ra0 : Rg 0 6 a0) (ra1 : Rg 0 5 a1) (hU : Iv L κ R ow I) : CtV l yX1_addToPlate cX1_addToPlate 4 none { frames := 0, cells := 0, slots := 0, locals := 0 } D cy L κ ln R I J [.ref x, .int a0, .int a1, .int a2] (fun I2 J2 => Iv L κ R ow I2 ∧ Fq L κ ow [16200, 16300] I I2 ∧ Fq L κ ow [] J J2 ∧ (CPf R I2 J2 x = fAddToPlate a0 a1 a2 (CPf R I J x))) := by
  refine CtV.of (by decide +kernel) (Nat.le_of_ble_eq_true rfl) ?_
  intro p e s m below meth c B K
  have C := B.1
  have hF : Fq L κ ow [16200, 16300] I I := fq_rf
  have hG : Fq L κ ow [] J J := fq_rf
  obtain ⟨b_1, hb_1, hb_1L, hb_1k, hb_1n, hb_1o⟩ := shp_a (W9 x hLx) hkx 3 14 7 rfl (by decide)
  obtain ⟨b_2, hb_2, hb_2L, hb_2k, hb_2n, hb_2o⟩ := shp_a (W9 x hLx) hkx 2 14 42 rfl (by decide)
  have ecqx : ∀ I J, CPf R I J x = CPq I J x b_2 := fun I J => by simp only [CPf, rr_, Option.getD_some, hb_2]
  have wcqx : cqw_ L κ ow x b_2 := ⟨⟨hLx, hb_2L⟩, ⟨(ro_o hkx (by decide)), (ro_a hb_2k (by decide) hb_2o hkx rfl)⟩⟩
  obtain ⟨s_3, hs_3⟩ : ∃ z, CPq I J x b_2 = z := ⟨_, rfl⟩
  refine g_lo (is := [0, 1, 2, 3]) (lo2 := [(0, .ref x), (1, .int a0), (2, .int a1), (3, .int a2)]) rfl ?_
  refine g_aload_n C 0 dX1_addToPlate_0 rfl rfl ?_
  refine g_getR C K hLx hkx f_1_15 hb_2 dX1_addToPlate_1 ?_
  refine g_iload_n C 1 dX1_addToPlate_4 rfl rfl ?_
  refine g_bipush C (v := 6) dX1_addToPlate_5 (by decide) ?_
  obtain ⟨x_4, hx_4, rx_4⟩ := ex_mulk 0 36 ra0 rc_6 (by decide) (by decide) (by decide) (by decide) (by decide)
  refine g_imul C (v := x_4) dX1_addToPlate_7 hx_4 ?_
  refine g_iload_n C 2 dX1_addToPlate_8 rfl rfl ?_
  obtain ⟨x_5, hx_5, rx_5, tx_5⟩ := ex_add 0 41 rx_4 ra1 (by decide) (by decide) (by decide) (by decide)
  refine g_iadd C (v := x_5) dX1_addToPlate_9 hx_5 ?_
  refine g_dup2 C dX1_addToPlate_10 rfl rfl ?_
  obtain ⟨x_6, hx_6, rx_6⟩ := ex_any (z0 := I b_2 (x_5.toNatClampNeg))
  refine h_iald C K hb_2L hb_2k (v := x_6) (x_5.toNatClampNeg) (rfl) (ix_0 rx_5 (by decide)) (ix_lt rx_5 (by decide) hb_2n (by decide)) hx_6 dX1_addToPlate_11 ?_
  have f_7 : s_3.pcs (x_5.toNatClampNeg) = x_6 := (congrFun (congrArg CP_.pcs hs_3) _).symm.trans hx_6
  refine g_iload_n C 3 dX1_addToPlate_12 rfl rfl ?_
  obtain ⟨x_8, hx_8, rx_8⟩ := ex_any (z0 := x_6 + a2)
  refine g_iadd C (v := x_8) dX1_addToPlate_13 hx_8 ?_
  refine h_iast C K hb_2L hb_2k (x_5.toNatClampNeg) (rfl) (ix_0 rx_5 (by decide)) (ix_lt rx_5 (by decide) hb_2n (by decide)) dX1_addToPlate_14 (fun I_9 hI_9 => ?_)
  have hU_10 := iv_put W9 hU hI_9 (ro_a hb_2k (by decide) hb_2o hkx rfl) (lo := (-2147483648)) (hi := 2147483647) (rfl) (rx_8) rfl
  have hF_11 := fq_puta hF hI_9 (ro_a hb_2k (by decide) hb_2o hkx rfl) (by decide) (by decide)
  have hs_12 : CPq I_9 J x b_2 = (CP_.w_pcs s_3 (up1 (s_3.pcs) (x_5.toNatClampNeg) (x_8))) := by rw [hI_9]; exact ((cq_pcs wcqx).trans (congrArg (fun z : CP_ => CP_.w_pcs z (up1 (z.pcs) (x_5.toNatClampNeg) (x_8))) hs_3)).trans rfl
  refine g_aload_n C 0 dX1_addToPlate_15 rfl rfl ?_
  refine g_getR C K hLx hkx f_1_18 hb_1 dX1_addToPlate_16 ?_
  refine g_iload_n C 1 dX1_addToPlate_19 rfl rfl ?_
  refine g_dup2 C dX1_addToPlate_20 rfl rfl ?_
  obtain ⟨x_13, hx_13, rx_13⟩ := ex_any (z0 := I_9 b_1 (a0.toNatClampNeg))
  refine h_iald C K hb_1L hb_1k (v := x_13) (a0.toNatClampNeg) (rfl) (ix_0 ra0 (by decide)) (ix_lt ra0 (by decide) hb_1n (by decide)) hx_13 dX1_addToPlate_21 ?_
  refine g_iload_n C 3 dX1_addToPlate_22 rfl rfl ?_
  obtain ⟨x_14, hx_14, rx_14⟩ := ex_any (z0 := x_13 + a2)
  refine g_iadd C (v := x_14) dX1_addToPlate_23 hx_14 ?_
  refine h_iast C K hb_1L hb_1k (a0.toNatClampNeg) (rfl) (ix_0 ra0 (by decide)) (ix_lt ra0 (by decide) hb_1n (by decide)) dX1_addToPlate_24 (fun I_15 hI_15 => ?_)
  have hU_16 := iv_put W9 hU_10 hI_15 (ro_a hb_1k (by decide) hb_1o hkx rfl) (lo := (-2147483648)) (hi := 2147483647) (rfl) (rx_14) rfl
  have hF_17 := fq_puta hF_11 hI_15 (ro_a hb_1k (by decide) hb_1o hkx rfl) (by decide) (by decide)
  have hs_18 : CPq I_15 J x b_2 = (CP_.w_pcs s_3 (up1 (s_3.pcs) (x_5.toNatClampNeg) (x_8))) := by rw [hI_15]; exact (cq_oI wcqx (ro_a hb_1k (by decide) hb_1o hkx rfl) (by decide)).trans hs_12
  exact g_vret B K rfl ⟨hU_16, hF_17, hG, (by simp only [fAddToPlate, ecqx, hs_18, hs_3, hx_4, hx_5, hx_6, f_7, hx_8, hx_13, hx_14, if_true, if_false, cqM_pcs, CP_.w_pcs])⟩ dX1_addToPlate_25
set_option maxRecDepth 100000 in
set_option maxHeartbeats 8000000 in
theorem c_X1_onPlate {l : Launch} {D : va_G} {cy : Nat → ClassId} {L : List Nat} {κ ln : Nat → Nat} {R : Nat → Nat → Option Nat} {I : Nat → Nat → Int32} {J : Nat → Nat → Int64} {ow : Nat → Nat × Nat} (W9 : ∀ a ∈ L, Shp L κ ln R ow a) {x : Nat} (hLx : x ∈ L) (hkx : κ x = 1) (a0 : Int32) (a1 : Int32) (ra0 : Rg 0 6 a0) (ra1 : Rg 0 5 a1) (hU : Iv L κ R ow I) : CtI l yX1_onPlate cX1_onPlate 3 (some .int) { frames := 0, cells := 0, slots := 0, locals := 0 } D cy L κ ln R I J [.ref x, .int a0, .int a1] (fun r I2 J2 => I = I2 ∧ J = J2 ∧ Rg (-2147483648) 2147483647 r ∧ (r = fOnPlate a0 a1 (CPf R I J x))) := by
  refine CtI.of (by decide +kernel) (Nat.le_of_ble_eq_true rfl) ?_
  intro p e s m below meth c B K
  have C := B.1
  obtain ⟨b_1, hb_1, hb_1L, hb_1k, hb_1n, hb_1o⟩ := shp_a (W9 x hLx) hkx 2 14 42 rfl (by decide)
  have ecqx : ∀ I J, CPf R I J x = CPq I J x b_1 := fun I J => by simp only [CPf, rr_, Option.getD_some, hb_1]
  have wcqx : cqw_ L κ ow x b_1 := ⟨⟨hLx, hb_1L⟩, ⟨(ro_o hkx (by decide)), (ro_a hb_1k (by decide) hb_1o hkx rfl)⟩⟩
  obtain ⟨s_2, hs_2⟩ : ∃ z, CPq I J x b_1 = z := ⟨_, rfl⟩
  refine g_lo (is := [0, 1, 2]) (lo2 := [(0, .ref x), (1, .int a0), (2, .int a1)]) rfl ?_
  refine g_aload_n C 0 dX1_onPlate_0 rfl rfl ?_
  refine g_getR C K hLx hkx f_1_15 hb_1 dX1_onPlate_1 ?_
  refine g_iload_n C 1 dX1_onPlate_4 rfl rfl ?_
  refine g_bipush C (v := 6) dX1_onPlate_5 (by decide) ?_
  obtain ⟨x_3, hx_3, rx_3⟩ := ex_mulk 0 36 ra0 rc_6 (by decide) (by decide) (by decide) (by decide) (by decide)
  refine g_imul C (v := x_3) dX1_onPlate_7 hx_3 ?_
  refine g_iload_n C 2 dX1_onPlate_8 rfl rfl ?_
  obtain ⟨x_4, hx_4, rx_4, tx_4⟩ := ex_add 0 41 rx_3 ra1 (by decide) (by decide) (by decide) (by decide)
  refine g_iadd C (v := x_4) dX1_onPlate_9 hx_4 ?_
  obtain ⟨x_5, hx_5, rx_5⟩ := ex_any (z0 := I b_1 (x_4.toNatClampNeg))
  refine h_iald C K hb_1L hb_1k (v := x_5) (x_4.toNatClampNeg) (rfl) (ix_0 rx_4 (by decide)) (ix_lt rx_4 (by decide) hb_1n (by decide)) hx_5 dX1_onPlate_10 ?_
  have f_6 : s_2.pcs (x_4.toNatClampNeg) = x_5 := (congrFun (congrArg CP_.pcs hs_2) _).symm.trans hx_5
  exact g_zret (ty := .int) (r := x_5) B K rfl (rfl) ⟨rfl, rfl, rx_5, (by simp only [fOnPlate, ecqx, hs_2, hx_3, hx_4, hx_5, f_6, if_true, if_false, cqM_pcs, CP_.w_pcs])⟩ dX1_onPlate_11
set_option maxRecDepth 100000 in
set_option maxHeartbeats 8000000 in
theorem c_X9_readPlate {l : Launch} {D : va_G} {cy : Nat → ClassId} {L : List Nat} {κ ln : Nat → Nat} {R : Nat → Nat → Option Nat} {I : Nat → Nat → Int32} {J : Nat → Nat → Int64} {ow : Nat → Nat × Nat} (W9 : ∀ a ∈ L, Shp L κ ln R ow a) {x : Nat} (hLx : x ∈ L) (hkx : κ x = 9) {a0 : Nat} (hLa0 : a0 ∈ L) (hka0 : κ a0 = 10) (hU : Iv L κ R ow I) : CtI l yX9_readPlate cX9_readPlate 5 (some .boolean) { frames := 2, cells := 0, slots := 0, locals := 44 } D cy L κ ln R I J [.ref x, .ref a0] (fun r I2 J2 => Iv L κ R ow I2 ∧ Fq L κ ow [1007, 1008, 1009, 1011, 1012, 16200, 16300] I I2 ∧ Fq L κ ow [1010] J J2 ∧ Rg 0 1 r ∧ ((r, TPf R I2 J2 a0, TBf R I2 J2 (rr_ R x 0), CPf R I2 J2 (rr_ R x 1), XPf R I2 J2 x) = fReadPlate (TPf R I J a0) (TBf R I J (rr_ R x 0)) (CPf R I J (rr_ R x 1)) (XPf R I J x))) := by
  refine CtI.of (by decide +kernel) (Nat.le_of_ble_eq_true rfl) ?_
  intro p e s m below meth c B K
  have C := B.1
  have hF : Fq L κ ow [1007, 1008, 1009, 1011, 1012, 16200, 16300] I I := fq_rf
  have hG : Fq L κ ow [1010] J J := fq_rf
  obtain ⟨b_1, hb_1, hb_1L, hb_1k⟩ := shp_o (W9 x hLx) hkx 1 1 rfl (by decide)
  obtain ⟨b_2, hb_2, hb_2L, hb_2k⟩ := shp_o (W9 x hLx) hkx 0 8 rfl (by decide)
  obtain ⟨b_3, hb_3, hb_3L, hb_3k, hb_3n, hb_3o⟩ := shp_a (W9 a0 hLa0) hka0 0 13 940 rfl (by decide)
  obtain ⟨b_4, hb_4, hb_4L, hb_4k, hb_4n, hb_4o⟩ := shp_a (W9 a0 hLa0) hka0 1 15 28 rfl (by decide)
  obtain ⟨b_5, hb_5, hb_5L, hb_5k, hb_5n, hb_5o⟩ := shp_a (W9 a0 hLa0) hka0 2 14 901 rfl (by decide)
  obtain ⟨b_6, hb_6, hb_6L, hb_6k, hb_6n, hb_6o⟩ := shp_a (W9 a0 hLa0) hka0 3 14 901 rfl (by decide)
  obtain ⟨b_7, hb_7, hb_7L, hb_7k, hb_7n, hb_7o⟩ := shp_a (W9 a0 hLa0) hka0 4 15 901 rfl (by decide)
  have etqa0 : ∀ I J, TPf R I J a0 = TPq I J a0 b_3 b_4 b_5 b_6 b_7 := fun I J => by simp only [TPf, rr_, Option.getD_some, hb_3, hb_4, hb_5, hb_6, hb_7]
  have wtqa0 : tqw_ L κ ow a0 b_3 b_4 b_5 b_6 b_7 := ⟨⟨hLa0, hb_3L, hb_4L, hb_5L, hb_6L, hb_7L⟩, ⟨(ro_o hka0 (by decide)), (ro_a hb_3k (by decide) hb_3o hka0 rfl), (ro_a hb_4k (by decide) hb_4o hka0 rfl), (ro_a hb_5k (by decide) hb_5o hka0 rfl), (ro_a hb_6k (by decide) hb_6o hka0 rfl), (ro_a hb_7k (by decide) hb_7o hka0 rfl)⟩⟩
  obtain ⟨s_8, hs_8⟩ : ∃ z, TPq I J a0 b_3 b_4 b_5 b_6 b_7 = z := ⟨_, rfl⟩
  obtain ⟨b_9, hb_9, hb_9L, hb_9k, hb_9n, hb_9o⟩ := shp_a (W9 b_2 hb_2L) hb_2k 0 15 7 rfl (by decide)
  obtain ⟨b_10, hb_10, hb_10L, hb_10k, hb_10n, hb_10o⟩ := shp_a (W9 b_2 hb_2L) hb_2k 2 14 7 rfl (by decide)
  obtain ⟨b_11, hb_11, hb_11L, hb_11k, hb_11n, hb_11o⟩ := shp_a (W9 b_2 hb_2L) hb_2k 3 15 6 rfl (by decide)
  have ebqx_0 : ∀ I J, TBf R I J (rr_ R x 0) = TBq I J b_2 b_9 b_10 b_11 := fun I J => by simp only [TBf, rr_, Option.getD_some, hb_9, hb_10, hb_11, hb_2]
  have dbqx_0 : ∀ I J, TBf R I J b_2 = TBq I J b_2 b_9 b_10 b_11 := fun I J => by simp only [TBf, rr_, Option.getD_some, hb_9, hb_10, hb_11, hb_2]
  have wbqx_0 : bqw_ L κ ow b_2 b_9 b_10 b_11 := ⟨⟨hb_2L, hb_9L, hb_10L, hb_11L⟩, ⟨(ro_o hb_2k (by decide)), (ro_a hb_9k (by decide) hb_9o hb_2k rfl), (ro_a hb_10k (by decide) hb_10o hb_2k rfl), (ro_a hb_11k (by decide) hb_11o hb_2k rfl)⟩⟩
  obtain ⟨s_12, hs_12⟩ : ∃ z, TBq I J b_2 b_9 b_10 b_11 = z := ⟨_, rfl⟩
  obtain ⟨b_13, hb_13, hb_13L, hb_13k, hb_13n, hb_13o⟩ := shp_a (W9 b_1 hb_1L) hb_1k 2 14 42 rfl (by decide)
  have ecqx_1 : ∀ I J, CPf R I J (rr_ R x 1) = CPq I J b_1 b_13 := fun I J => by simp only [CPf, rr_, Option.getD_some, hb_13, hb_1]
  have dcqx_1 : ∀ I J, CPf R I J b_1 = CPq I J b_1 b_13 := fun I J => by simp only [CPf, rr_, Option.getD_some, hb_13, hb_1]
  have wcqx_1 : cqw_ L κ ow b_1 b_13 := ⟨⟨hb_1L, hb_13L⟩, ⟨(ro_o hb_1k (by decide)), (ro_a hb_13k (by decide) hb_13o hb_1k rfl)⟩⟩
  obtain ⟨s_14, hs_14⟩ : ∃ z, CPq I J b_1 b_13 = z := ⟨_, rfl⟩
  have exqx : ∀ I J, XPf R I J x = XPq I J x := fun I J => by simp only [XPf, rr_, Option.getD_some]
  have wxqx : xqw_ L κ ow x := ⟨hLx, (ro_o hkx (by decide))⟩
  obtain ⟨s_15, hs_15⟩ : ∃ z, XPq I J x = z := ⟨_, rfl⟩
  refine g_lo (is := [0, 1]) (lo2 := [(0, .ref x), (1, .ref a0)]) rfl ?_
  refine g_aload_n C 1 dX9_readPlate_0 rfl rfl ?_
  refine g_callVV C K (c_X10_advance W9 hLa0 hka0   hU) hLa0 hka0 (by decide) rfl v_9_82 rfl ⟨rfl, rfl⟩ ⟨Nat.le_of_ble_eq_true rfl, Nat.le_of_ble_eq_true rfl⟩ (Nat.le_of_ble_eq_true rfl) ⟨Nat.le_of_ble_eq_true rfl, Nat.le_of_ble_eq_true rfl⟩ dX9_readPlate_1 rfl (st := []) (fun I_17 J_18 h_19 => ?_)
  obtain ⟨hUI_17, hFI_17, hGJ_18, fx_16⟩ := h_19
  have hF_20 := fq_tr hF hFI_17 (by decide)
  have hG_21 := fq_tr hG hGJ_18 (by decide)
  obtain ⟨s_23, hs_23⟩ : ∃ z, TPq I_17 J_18 a0 b_3 b_4 b_5 b_6 b_7 = z := ⟨_, rfl⟩
  have c_22 : fAdvance (s_8) = s_23 := by have q := fx_16; simp only [etqa0, hs_8, hs_23] at q; exact q.symm
  have hs_24 : TBq I_17 J_18 b_2 b_9 b_10 b_11 = s_12 := (bq_fq wbqx_0 hFI_17 hGJ_18 (by decide) (by decide)).trans hs_12
  have hs_25 : CPq I_17 J_18 b_1 b_13 = s_14 := (cq_fq wcqx_1 hFI_17 hGJ_18 (by decide) (by decide)).trans hs_14
  have hs_26 : XPq I_17 J_18 x = s_15 := (xq_fq wxqx hFI_17 hGJ_18 (by decide) (by decide)).trans hs_15
  refine g_aload_n C 1 dX9_readPlate_4 rfl rfl ?_
  refine g_aload_n C 0 dX9_readPlate_5 rfl rfl ?_
  refine g_getR C K hLx hkx f_9_12 hb_2 dX9_readPlate_6 ?_
  refine g_aload_n C 1 dX9_readPlate_9 rfl rfl ?_
  obtain ⟨y_27, hy_27⟩ : ∃ z, J_18 a0 10 = z := ⟨_, rfl⟩
  have f_28 : s_23.value = y_27 := (congrArg TP_.value hs_23).symm.trans hy_27
  refine g_getJ C K hLa0 hka0 f_9_71 (v := y_27) hy_27 dX9_readPlate_10 ?_
  refine g_callVI C K (c_X8_personNamed W9 hb_2L hb_2k y_27  hUI_17) hb_2L hb_2k (by decide) rfl v_9_75 rfl ⟨rfl, rfl⟩ ⟨Nat.le_of_ble_eq_true rfl, Nat.le_of_ble_eq_true rfl⟩ (Nat.le_of_ble_eq_true rfl) ⟨Nat.le_of_ble_eq_true rfl, Nat.le_of_ble_eq_true rfl⟩ dX9_readPlate_13 rfl (st := [.ref a0]) (fun x_29 I_30 J_31 h_32 => ?_)
  obtain ⟨rfl, rfl, rx_29, fx_29⟩ := h_32
  have c_33 : fPersonNamed (y_27) (s_12) = x_29 := by have q := fx_29; simp only [ebqx_0, dbqx_0, hs_24] at q; exact q.symm
  refine g_callVI C K (c_X10_takeName W9 hLa0 hka0 x_29 (rx_29) hUI_17) hLa0 hka0 (by decide) rfl v_9_95 rfl ⟨rfl, rfl⟩ ⟨Nat.le_of_ble_eq_true rfl, Nat.le_of_ble_eq_true rfl⟩ (Nat.le_of_ble_eq_true rfl) ⟨Nat.le_of_ble_eq_true rfl, Nat.le_of_ble_eq_true rfl⟩ dX9_readPlate_16 rfl (st := []) (fun x_34 I_35 J_36 h_37 => ?_)
  obtain ⟨hUI_35, hFI_35, hGJ_36, rx_34, fx_34, ex_34⟩ := h_37
  have hF_38 := fq_tr hF_20 hFI_35 (by decide)
  have hG_39 := fq_tr hG_21 hGJ_36 (by decide)
  obtain ⟨s_41, hs_41⟩ : ∃ z, TPq I_35 J_36 a0 b_3 b_4 b_5 b_6 b_7 = z := ⟨_, rfl⟩
  have c_40 : fTakeName (x_29) (s_23) = (x_34, s_41) := by have q := fx_34; simp only [etqa0, hs_23, hs_41] at q; exact q.symm
  have hs_42 : TBq I_35 J_36 b_2 b_9 b_10 b_11 = s_12 := (bq_fq wbqx_0 hFI_35 hGJ_36 (by decide) (by decide)).trans hs_24
  have hs_43 : CPq I_35 J_36 b_1 b_13 = s_14 := (cq_fq wcqx_1 hFI_35 hGJ_36 (by decide) (by decide)).trans hs_25
  have hs_44 : XPq I_35 J_36 x = s_15 := (xq_fq wxqx hFI_35 hGJ_36 (by decide) (by decide)).trans hs_26
  have r_45 : Rg (-1) 6 x_34 := rg_or ex_34 (rx_29) (by decide) (by decide)
  refine g_istore_n C dX9_readPlate_19 rfl (by decide) (lo2 := [(2, .int x_34), (0, .ref x), (1, .ref a0)]) rfl ?_
  refine g_iload_n C 0 dX9_readPlate_20 rfl rfl ?_
  refine g_iconst C (v := (-1)) dX9_readPlate_21 (by decide) ?_
  refine g_icmp_ne C (tgt := 27) dX9_readPlate_22 (by decide) (fun h_46 => ?_) (fun h_46 => ?_)
  · skip
    have n_47 : ¬ x_34 = (-1) := h_46
    have r_48 := ne_lo (lo := 0) n_47 r_45 rc_m1 rfl (by decide)
    have r_49 := eq_rg (Eq.symm (Or.resolve_left ex_34 (rg_nek r_48 rc_m1 (by decide)))) r_48
    refine g_aload_n C 1 dX9_readPlate_27 rfl rfl ?_
    refine g_getR C K hLx hkx f_9_12 hb_2 dX9_readPlate_28 ?_
    refine g_aload_n C 2 dX9_readPlate_31 rfl rfl ?_
    obtain ⟨y_50, hy_50⟩ : ∃ z, J_36 a0 10 = z := ⟨_, rfl⟩
    have f_51 : s_41.value = y_50 := (congrArg TP_.value hs_41).symm.trans hy_50
    refine g_getJ C K hLa0 hka0 f_9_71 (v := y_50) hy_50 dX9_readPlate_32 ?_
    refine g_callVI C K (c_X8_dishNamed W9 hb_2L hb_2k y_50  hUI_35) hb_2L hb_2k (by decide) rfl v_9_79 rfl ⟨rfl, rfl⟩ ⟨Nat.le_of_ble_eq_true rfl, Nat.le_of_ble_eq_true rfl⟩ (Nat.le_of_ble_eq_true rfl) ⟨Nat.le_of_ble_eq_true rfl, Nat.le_of_ble_eq_true rfl⟩ dX9_readPlate_35 rfl (st := []) (fun x_52 I_53 J_54 h_55 => ?_)
    obtain ⟨rfl, rfl, rx_52, fx_52⟩ := h_55
    have c_56 : fDishNamed (y_50) (s_12) = x_52 := by have q := fx_52; simp only [ebqx_0, dbqx_0, hs_42] at q; exact q.symm
    refine g_istore_n C dX9_readPlate_38 rfl (by decide) (lo2 := [(3, .int x_52), (2, .int x_34), (0, .ref x), (1, .ref a0)]) rfl ?_
    refine g_aload_n C 3 dX9_readPlate_39 rfl rfl ?_
    obtain ⟨x_57, hx_57, rx_57⟩ := ex_get (I := I_35) (a := a0) (j := 8) (lo := (-2147483648)) (hi := 2147483647) hUI_35.1 hLa0 (ro_o hka0 (by decide)) rfl
    have f_58 : s_41.token = x_57 := (congrArg TP_.token hs_41).symm.trans hx_57
    refine g_getI C K hLa0 hka0 f_9_44 (v := x_57) hx_57 dX9_readPlate_40 ?_
    refine g_bipush C (v := 100) dX9_readPlate_43 (by decide) ?_
    refine g_icmp_ne C (tgt := 71) dX9_readPlate_45 (by decide) (fun h_59 => ?_) (fun h_59 => ?_)
    · skip
      have n_60 : ¬ x_57 = 100 := h_59
      refine g_aload_n C 3 dX9_readPlate_71 rfl rfl ?_
      refine g_iload_n C 0 dX9_readPlate_72 rfl rfl ?_
      refine g_callVI C K (c_X10_takeName W9 hLa0 hka0 x_52 (rg_w rx_52 (by decide) (by decide)) hUI_35) hLa0 hka0 (by decide) rfl v_9_95 rfl ⟨rfl, rfl⟩ ⟨Nat.le_of_ble_eq_true rfl, Nat.le_of_ble_eq_true rfl⟩ (Nat.le_of_ble_eq_true rfl) ⟨Nat.le_of_ble_eq_true rfl, Nat.le_of_ble_eq_true rfl⟩ dX9_readPlate_73 rfl (st := []) (fun x_61 I_62 J_63 h_64 => ?_)
      obtain ⟨hUI_62, hFI_62, hGJ_63, rx_61, fx_61, ex_61⟩ := h_64
      have hF_65 := fq_tr hF_38 hFI_62 (by decide)
      have hG_66 := fq_tr hG_39 hGJ_63 (by decide)
      obtain ⟨s_68, hs_68⟩ : ∃ z, TPq I_62 J_63 a0 b_3 b_4 b_5 b_6 b_7 = z := ⟨_, rfl⟩
      have c_67 : fTakeName (x_52) (s_41) = (x_61, s_68) := by have q := fx_61; simp only [etqa0, hs_41, hs_68] at q; exact q.symm
      have hs_69 : TBq I_62 J_63 b_2 b_9 b_10 b_11 = s_12 := (bq_fq wbqx_0 hFI_62 hGJ_63 (by decide) (by decide)).trans hs_42
      have hs_70 : CPq I_62 J_63 b_1 b_13 = s_14 := (cq_fq wcqx_1 hFI_62 hGJ_63 (by decide) (by decide)).trans hs_43
      have hs_71 : XPq I_62 J_63 x = s_15 := (xq_fq wxqx hFI_62 hGJ_63 (by decide) (by decide)).trans hs_44
      have r_72 : Rg (-1) 5 x_61 := rg_or ex_61 (rx_52) (by decide) (by decide)
      refine g_iconst C (v := (-1)) dX9_readPlate_76 (by decide) ?_
      refine g_icmp_ne C (tgt := 82) dX9_readPlate_77 (by decide) (fun h_73 => ?_) (fun h_73 => ?_)
      · skip
        have n_74 : ¬ x_61 = (-1) := h_73
        have r_75 := ne_lo (lo := 0) n_74 r_72 rc_m1 rfl (by decide)
        have r_76 := eq_rg (Eq.symm (Or.resolve_left ex_61 (rg_nek r_75 rc_m1 (by decide)))) r_75
        refine g_aload_n C 3 dX9_readPlate_82 rfl rfl ?_
        refine g_iconst C (v := 1) dX9_readPlate_83 (by decide) ?_
        refine g_bipush C (v := 40) dX9_readPlate_84 (by decide) ?_
        refine g_callVI C K (c_X10_takeNumber W9 hLa0 hka0 1 40 (rg_w rc_1 (by decide) (by decide)) (rg_w rc_40 (by decide) (by decide)) hUI_62) hLa0 hka0 (by decide) rfl v_9_91 rfl ⟨rfl, rfl⟩ ⟨Nat.le_of_ble_eq_true rfl, Nat.le_of_ble_eq_true rfl⟩ (Nat.le_of_ble_eq_true rfl) ⟨Nat.le_of_ble_eq_true rfl, Nat.le_of_ble_eq_true rfl⟩ dX9_readPlate_86 rfl (st := []) (fun x_77 I_78 J_79 h_80 => ?_)
        obtain ⟨hUI_78, hFI_78, hGJ_79, rx_77, fx_77⟩ := h_80
        have hF_81 := fq_tr hF_65 hFI_78 (by decide)
        have hG_82 := fq_tr hG_66 hGJ_79 (by decide)
        obtain ⟨s_84, hs_84⟩ : ∃ z, TPq I_78 J_79 a0 b_3 b_4 b_5 b_6 b_7 = z := ⟨_, rfl⟩
        have c_83 : fTakeNumber (1) (40) (s_68) = (x_77, s_84) := by have q := fx_77; simp only [etqa0, hs_68, hs_84] at q; exact q.symm
        have hs_85 : TBq I_78 J_79 b_2 b_9 b_10 b_11 = s_12 := (bq_fq wbqx_0 hFI_78 hGJ_79 (by decide) (by decide)).trans hs_69
        have hs_86 : CPq I_78 J_79 b_1 b_13 = s_14 := (cq_fq wcqx_1 hFI_78 hGJ_79 (by decide) (by decide)).trans hs_70
        have hs_87 : XPq I_78 J_79 x = s_15 := (xq_fq wxqx hFI_78 hGJ_79 (by decide) (by decide)).trans hs_71
        refine g_istore C dX9_readPlate_89 (by decide) (lo2 := [(4, .int x_77), (3, .int x_52), (2, .int x_34), (0, .ref x), (1, .ref a0)]) rfl ?_
        refine g_iload C 0 dX9_readPlate_91 rfl ?_
        refine g_iconst C (v := (-1)) dX9_readPlate_93 (by decide) ?_
        refine g_icmp_ne C (tgt := 99) dX9_readPlate_94 (by decide) (fun h_88 => ?_) (fun h_88 => ?_)
        · skip
          have n_89 : ¬ x_77 = (-1) := h_88
          refine g_aload_n C 3 dX9_readPlate_99 rfl rfl ?_
          refine g_getR C K hLx hkx f_9_23 hb_1 dX9_readPlate_100 ?_
          refine g_iload_n C 2 dX9_readPlate_103 rfl rfl ?_
          refine g_iload_n C 1 dX9_readPlate_104 rfl rfl ?_
          refine g_iload C 0 dX9_readPlate_105 rfl ?_
          refine g_callVV C K (c_X1_addToPlate W9 hb_1L hb_1k x_34 x_52 x_77 (r_48) (r_76) hUI_78) hb_1L hb_1k (by decide) rfl v_9_128 rfl ⟨rfl, rfl⟩ ⟨Nat.le_of_ble_eq_true rfl, Nat.le_of_ble_eq_true rfl⟩ (Nat.le_of_ble_eq_true rfl) ⟨Nat.le_of_ble_eq_true rfl, Nat.le_of_ble_eq_true rfl⟩ dX9_readPlate_107 rfl (st := []) (fun I_91 J_92 h_93 => ?_)
          obtain ⟨hUI_91, hFI_91, hGJ_92, fx_90⟩ := h_93
          have hF_94 := fq_tr hF_81 hFI_91 (by decide)
          have hG_95 := fq_tr hG_82 hGJ_92 (by decide)
          obtain ⟨s_97, hs_97⟩ : ∃ z, CPq I_91 J_92 b_1 b_13 = z := ⟨_, rfl⟩
          have c_96 : fAddToPlate (x_34) (x_52) (x_77) (s_14) = s_97 := by have q := fx_90; simp only [ecqx_1, dcqx_1, hs_86, hs_97] at q; exact q.symm
          have hs_98 : TPq I_91 J_92 a0 b_3 b_4 b_5 b_6 b_7 = s_84 := (tq_fq wtqa0 hFI_91 hGJ_92 (by decide) (by decide)).trans hs_84
          have hs_99 : TBq I_91 J_92 b_2 b_9 b_10 b_11 = s_12 := (bq_fq wbqx_0 hFI_91 hGJ_92 (by decide) (by decide)).trans hs_85
          have hs_100 : XPq I_91 J_92 x = s_15 := (xq_fq wxqx hFI_91 hGJ_92 (by decide) (by decide)).trans hs_87
          refine g_aload_n C 4 dX9_readPlate_110 rfl rfl ?_
          refine g_bipush C (v := 59) dX9_readPlate_111 (by decide) ?_
          refine g_callVI C K (c_X10_take W9 hLa0 hka0 59 (rg_w rc_59 (by decide) (by decide)) hUI_91) hLa0 hka0 (by decide) rfl v_9_110 rfl ⟨rfl, rfl⟩ ⟨Nat.le_of_ble_eq_true rfl, Nat.le_of_ble_eq_true rfl⟩ (Nat.le_of_ble_eq_true rfl) ⟨Nat.le_of_ble_eq_true rfl, Nat.le_of_ble_eq_true rfl⟩ dX9_readPlate_113 rfl (st := []) (fun x_101 I_102 J_103 h_104 => ?_)
          obtain ⟨hUI_102, hFI_102, hGJ_103, rx_101, fx_101⟩ := h_104
          have hF_105 := fq_tr hF_94 hFI_102 (by decide)
          have hG_106 := fq_tr hG_95 hGJ_103 (by decide)
          obtain ⟨s_108, hs_108⟩ : ∃ z, TPq I_102 J_103 a0 b_3 b_4 b_5 b_6 b_7 = z := ⟨_, rfl⟩
          have c_107 : fTake (59) (s_84) = (x_101, s_108) := by have q := fx_101; simp only [etqa0, hs_98, hs_108] at q; exact q.symm
          have hs_109 : TBq I_102 J_103 b_2 b_9 b_10 b_11 = s_12 := (bq_fq wbqx_0 hFI_102 hGJ_103 (by decide) (by decide)).trans hs_99
          have hs_110 : CPq I_102 J_103 b_1 b_13 = s_97 := (cq_fq wcqx_1 hFI_102 hGJ_103 (by decide) (by decide)).trans hs_97
          have hs_111 : XPq I_102 J_103 x = s_15 := (xq_fq wxqx hFI_102 hGJ_103 (by decide) (by decide)).trans hs_100
          exact g_zret (ty := .boolean) (r := x_101) B K rfl (nar_z (rx_101)) ⟨hUI_102, hF_105, hG_106, rx_101, (by simp only [fReadPlate, fFailR, fTakeR, fPutPerson, fPutDish, fReadPlate3, etqa0, hs_108, hs_8, ebqx_0, dbqx_0, hs_109, hs_12, ecqx_1, dcqx_1, hs_110, hs_14, exqx, hs_111, hs_15, c_22, hy_27, f_28, c_33, c_40, h_46, hy_50, f_51, c_56, hx_57, f_58, h_59, c_67, h_73, c_83, h_88, c_96, c_107, if_true, if_false, bqM_pnm, bqM_par, bqM_dnm, bqM_persons, bqM_dishes, bqM_law, bqM_dogs, TB_.w_pnm, TB_.w_par, TB_.w_dnm, TB_.w_persons, TB_.w_dishes, TB_.w_law, TB_.w_dogs, cqM_pcs, CP_.w_pcs, tqM_by_, tqM_wd, tqM_tk, tqM_pl, tqM_vl, tqM_len, tqM_n, tqM_at_, tqM_token, tqM_place, tqM_value, tqM_fault, tqM_fat, TP_.w_by_, TP_.w_wd, TP_.w_tk, TP_.w_pl, TP_.w_vl, TP_.w_len, TP_.w_n, TP_.w_at_, TP_.w_token, TP_.w_place, TP_.w_value, TP_.w_fault, TP_.w_fat, xqM_lt, xqM_dt, XP_.w_lt, XP_.w_dt])⟩ dX9_readPlate_116
        · skip
          have r_112 := (⟨(eq_rg (h_88) rc_m1).1, (eq_rg (h_88) rc_m1).2⟩ : Rg (-1) (-1) x_77)
          refine g_iconst C (v := 0) dX9_readPlate_97 (by decide) ?_
          exact g_zret (ty := .boolean) (r := 0) B K rfl (rfl) ⟨hUI_78, hF_81, hG_82, rg_w rc_0 (by decide) (by decide), (by simp only [fReadPlate, fFailR, fTakeR, fPutPerson, fPutDish, fReadPlate3, etqa0, hs_84, hs_8, ebqx_0, dbqx_0, hs_85, hs_12, ecqx_1, dcqx_1, hs_86, hs_14, exqx, hs_87, hs_15, c_22, hy_27, f_28, c_33, c_40, h_46, hy_50, f_51, c_56, hx_57, f_58, h_59, c_67, h_73, c_83, (eq_true h_88), if_true, if_false, bqM_pnm, bqM_par, bqM_dnm, bqM_persons, bqM_dishes, bqM_law, bqM_dogs, TB_.w_pnm, TB_.w_par, TB_.w_dnm, TB_.w_persons, TB_.w_dishes, TB_.w_law, TB_.w_dogs, cqM_pcs, CP_.w_pcs, tqM_by_, tqM_wd, tqM_tk, tqM_pl, tqM_vl, tqM_len, tqM_n, tqM_at_, tqM_token, tqM_place, tqM_value, tqM_fault, tqM_fat, TP_.w_by_, TP_.w_wd, TP_.w_tk, TP_.w_pl, TP_.w_vl, TP_.w_len, TP_.w_n, TP_.w_at_, TP_.w_token, TP_.w_place, TP_.w_value, TP_.w_fault, TP_.w_fat, xqM_lt, xqM_dt, XP_.w_lt, XP_.w_dt])⟩ dX9_readPlate_98
      · skip
        have r_113 := (⟨(r_72).1, (eq_rg (h_73) rc_m1).2⟩ : Rg (-1) (-1) x_61)
        refine g_iconst C (v := 0) dX9_readPlate_80 (by decide) ?_
        exact g_zret (ty := .boolean) (r := 0) B K rfl (rfl) ⟨hUI_62, hF_65, hG_66, rg_w rc_0 (by decide) (by decide), (by simp only [fReadPlate, fFailR, fTakeR, fPutPerson, fPutDish, fReadPlate3, etqa0, hs_68, hs_8, ebqx_0, dbqx_0, hs_69, hs_12, ecqx_1, dcqx_1, hs_70, hs_14, exqx, hs_71, hs_15, c_22, hy_27, f_28, c_33, c_40, h_46, hy_50, f_51, c_56, hx_57, f_58, h_59, c_67, (eq_true h_73), if_true, if_false, bqM_pnm, bqM_par, bqM_dnm, bqM_persons, bqM_dishes, bqM_law, bqM_dogs, TB_.w_pnm, TB_.w_par, TB_.w_dnm, TB_.w_persons, TB_.w_dishes, TB_.w_law, TB_.w_dogs, cqM_pcs, CP_.w_pcs, tqM_by_, tqM_wd, tqM_tk, tqM_pl, tqM_vl, tqM_len, tqM_n, tqM_at_, tqM_token, tqM_place, tqM_value, tqM_fault, tqM_fat, TP_.w_by_, TP_.w_wd, TP_.w_tk, TP_.w_pl, TP_.w_vl, TP_.w_len, TP_.w_n, TP_.w_at_, TP_.w_token, TP_.w_place, TP_.w_value, TP_.w_fault, TP_.w_fat, xqM_lt, xqM_dt, XP_.w_lt, XP_.w_dt])⟩ dX9_readPlate_81
    · skip
      have r_114 := (⟨(eq_rg (h_59) rc_100).1, (eq_rg (h_59) rc_100).2⟩ : Rg 100 100 x_57)
      refine g_iload_n C 0 dX9_readPlate_48 rfl rfl ?_
      refine g_iconst C (v := (-1)) dX9_readPlate_49 (by decide) ?_
      refine g_icmp_eq C (tgt := 71) dX9_readPlate_50 (by decide) (fun h_115 => ?_) (fun h_115 => ?_)
      · skip
        have r_116 := (⟨(rx_52).1, (eq_rg (h_115) rc_m1).2⟩ : Rg (-1) (-1) x_52)
        refine g_aload_n C 3 dX9_readPlate_71 rfl rfl ?_
        refine g_iload_n C 0 dX9_readPlate_72 rfl rfl ?_
        refine g_callVI C K (c_X10_takeName W9 hLa0 hka0 x_52 (rg_w r_116 (by decide) (by decide)) hUI_35) hLa0 hka0 (by decide) rfl v_9_95 rfl ⟨rfl, rfl⟩ ⟨Nat.le_of_ble_eq_true rfl, Nat.le_of_ble_eq_true rfl⟩ (Nat.le_of_ble_eq_true rfl) ⟨Nat.le_of_ble_eq_true rfl, Nat.le_of_ble_eq_true rfl⟩ dX9_readPlate_73 rfl (st := []) (fun x_117 I_118 J_119 h_120 => ?_)
        obtain ⟨hUI_118, hFI_118, hGJ_119, rx_117, fx_117, ex_117⟩ := h_120
        have hF_121 := fq_tr hF_38 hFI_118 (by decide)
        have hG_122 := fq_tr hG_39 hGJ_119 (by decide)
        obtain ⟨s_124, hs_124⟩ : ∃ z, TPq I_118 J_119 a0 b_3 b_4 b_5 b_6 b_7 = z := ⟨_, rfl⟩
        have c_123 : fTakeName (x_52) (s_41) = (x_117, s_124) := by have q := fx_117; simp only [etqa0, hs_41, hs_124] at q; exact q.symm
        have hs_125 : TBq I_118 J_119 b_2 b_9 b_10 b_11 = s_12 := (bq_fq wbqx_0 hFI_118 hGJ_119 (by decide) (by decide)).trans hs_42
        have hs_126 : CPq I_118 J_119 b_1 b_13 = s_14 := (cq_fq wcqx_1 hFI_118 hGJ_119 (by decide) (by decide)).trans hs_43
        have hs_127 : XPq I_118 J_119 x = s_15 := (xq_fq wxqx hFI_118 hGJ_119 (by decide) (by decide)).trans hs_44
        have r_128 : Rg (-1) (-1) x_117 := rg_or ex_117 (r_116) (by decide) (by decide)
        refine g_iconst C (v := (-1)) dX9_readPlate_76 (by decide) ?_
        refine g_icmp_ne C (tgt := 82) dX9_readPlate_77 (by decide) (fun h_129 => ?_) (fun h_129 => ?_)
        · skip
          exact ne_no (h_129) r_128 rc_m1
        · skip
          refine g_iconst C (v := 0) dX9_readPlate_80 (by decide) ?_
          exact g_zret (ty := .boolean) (r := 0) B K rfl (rfl) ⟨hUI_118, hF_121, hG_122, rg_w rc_0 (by decide) (by decide), (by simp only [fReadPlate, fFailR, fTakeR, fPutPerson, fPutDish, fReadPlate3, etqa0, hs_124, hs_8, ebqx_0, dbqx_0, hs_125, hs_12, ecqx_1, dcqx_1, hs_126, hs_14, exqx, hs_127, hs_15, c_22, hy_27, f_28, c_33, c_40, h_46, hy_50, f_51, c_56, hx_57, f_58, (eq_true h_59), (eq_true h_115), c_123, (eq_true h_129), if_true, if_false, bqM_pnm, bqM_par, bqM_dnm, bqM_persons, bqM_dishes, bqM_law, bqM_dogs, TB_.w_pnm, TB_.w_par, TB_.w_dnm, TB_.w_persons, TB_.w_dishes, TB_.w_law, TB_.w_dogs, cqM_pcs, CP_.w_pcs, tqM_by_, tqM_wd, tqM_tk, tqM_pl, tqM_vl, tqM_len, tqM_n, tqM_at_, tqM_token, tqM_place, tqM_value, tqM_fault, tqM_fat, TP_.w_by_, TP_.w_wd, TP_.w_tk, TP_.w_pl, TP_.w_vl, TP_.w_len, TP_.w_n, TP_.w_at_, TP_.w_token, TP_.w_place, TP_.w_value, TP_.w_fault, TP_.w_fat, xqM_lt, xqM_dt, XP_.w_lt, XP_.w_dt])⟩ dX9_readPlate_81
      · skip
        have n_130 : ¬ x_52 = (-1) := h_115
        have r_131 := ne_lo (lo := 0) n_130 rx_52 rc_m1 rfl (by decide)
        refine g_aload_n C 2 dX9_readPlate_53 rfl rfl ?_
        refine g_getR C K hLx hkx f_9_23 hb_1 dX9_readPlate_54 ?_
        refine g_iload_n C 1 dX9_readPlate_57 rfl rfl ?_
        refine g_iload_n C 0 dX9_readPlate_58 rfl rfl ?_
        refine g_callVI C K (c_X1_onPlate W9 hb_1L hb_1k x_34 x_52 (r_48) (r_131) hUI_35) hb_1L hb_1k (by decide) rfl v_9_125 rfl ⟨rfl, rfl⟩ ⟨Nat.le_of_ble_eq_true rfl, Nat.le_of_ble_eq_true rfl⟩ (Nat.le_of_ble_eq_true rfl) ⟨Nat.le_of_ble_eq_true rfl, Nat.le_of_ble_eq_true rfl⟩ dX9_readPlate_59 rfl (st := []) (fun x_132 I_133 J_134 h_135 => ?_)
        obtain ⟨rfl, rfl, rx_132, fx_132⟩ := h_135
        have c_136 : fOnPlate (x_34) (x_52) (s_14) = x_132 := by have q := fx_132; simp only [ecqx_1, dcqx_1, hs_43] at q; exact q.symm
        refine g_if_le C (tgt := 71) dX9_readPlate_62 (by decide) (fun h_137 => ?_) (fun h_137 => ?_)
        · skip
          have r_138 := le_l (h_137) rx_132 rc_0
          refine g_aload_n C 3 dX9_readPlate_71 rfl rfl ?_
          refine g_iload_n C 0 dX9_readPlate_72 rfl rfl ?_
          refine g_callVI C K (c_X10_takeName W9 hLa0 hka0 x_52 (rg_w r_131 (by decide) (by decide)) hUI_35) hLa0 hka0 (by decide) rfl v_9_95 rfl ⟨rfl, rfl⟩ ⟨Nat.le_of_ble_eq_true rfl, Nat.le_of_ble_eq_true rfl⟩ (Nat.le_of_ble_eq_true rfl) ⟨Nat.le_of_ble_eq_true rfl, Nat.le_of_ble_eq_true rfl⟩ dX9_readPlate_73 rfl (st := []) (fun x_139 I_140 J_141 h_142 => ?_)
          obtain ⟨hUI_140, hFI_140, hGJ_141, rx_139, fx_139, ex_139⟩ := h_142
          have hF_143 := fq_tr hF_38 hFI_140 (by decide)
          have hG_144 := fq_tr hG_39 hGJ_141 (by decide)
          obtain ⟨s_146, hs_146⟩ : ∃ z, TPq I_140 J_141 a0 b_3 b_4 b_5 b_6 b_7 = z := ⟨_, rfl⟩
          have c_145 : fTakeName (x_52) (s_41) = (x_139, s_146) := by have q := fx_139; simp only [etqa0, hs_41, hs_146] at q; exact q.symm
          have hs_147 : TBq I_140 J_141 b_2 b_9 b_10 b_11 = s_12 := (bq_fq wbqx_0 hFI_140 hGJ_141 (by decide) (by decide)).trans hs_42
          have hs_148 : CPq I_140 J_141 b_1 b_13 = s_14 := (cq_fq wcqx_1 hFI_140 hGJ_141 (by decide) (by decide)).trans hs_43
          have hs_149 : XPq I_140 J_141 x = s_15 := (xq_fq wxqx hFI_140 hGJ_141 (by decide) (by decide)).trans hs_44
          have r_150 : Rg (-1) 5 x_139 := rg_or ex_139 (rg_w r_131 (by decide) (by decide)) (by decide) (by decide)
          refine g_iconst C (v := (-1)) dX9_readPlate_76 (by decide) ?_
          refine g_icmp_ne C (tgt := 82) dX9_readPlate_77 (by decide) (fun h_151 => ?_) (fun h_151 => ?_)
          · skip
            have n_152 : ¬ x_139 = (-1) := h_151
            have r_153 := ne_lo (lo := 0) n_152 r_150 rc_m1 rfl (by decide)
            refine g_aload_n C 3 dX9_readPlate_82 rfl rfl ?_
            refine g_iconst C (v := 1) dX9_readPlate_83 (by decide) ?_
            refine g_bipush C (v := 40) dX9_readPlate_84 (by decide) ?_
            refine g_callVI C K (c_X10_takeNumber W9 hLa0 hka0 1 40 (rg_w rc_1 (by decide) (by decide)) (rg_w rc_40 (by decide) (by decide)) hUI_140) hLa0 hka0 (by decide) rfl v_9_91 rfl ⟨rfl, rfl⟩ ⟨Nat.le_of_ble_eq_true rfl, Nat.le_of_ble_eq_true rfl⟩ (Nat.le_of_ble_eq_true rfl) ⟨Nat.le_of_ble_eq_true rfl, Nat.le_of_ble_eq_true rfl⟩ dX9_readPlate_86 rfl (st := []) (fun x_154 I_155 J_156 h_157 => ?_)
            obtain ⟨hUI_155, hFI_155, hGJ_156, rx_154, fx_154⟩ := h_157
            have hF_158 := fq_tr hF_143 hFI_155 (by decide)
            have hG_159 := fq_tr hG_144 hGJ_156 (by decide)
            obtain ⟨s_161, hs_161⟩ : ∃ z, TPq I_155 J_156 a0 b_3 b_4 b_5 b_6 b_7 = z := ⟨_, rfl⟩
            have c_160 : fTakeNumber (1) (40) (s_146) = (x_154, s_161) := by have q := fx_154; simp only [etqa0, hs_146, hs_161] at q; exact q.symm
            have hs_162 : TBq I_155 J_156 b_2 b_9 b_10 b_11 = s_12 := (bq_fq wbqx_0 hFI_155 hGJ_156 (by decide) (by decide)).trans hs_147
            have hs_163 : CPq I_155 J_156 b_1 b_13 = s_14 := (cq_fq wcqx_1 hFI_155 hGJ_156 (by decide) (by decide)).trans hs_148
            have hs_164 : XPq I_155 J_156 x = s_15 := (xq_fq wxqx hFI_155 hGJ_156 (by decide) (by decide)).trans hs_149
            refine g_istore C dX9_readPlate_89 (by decide) (lo2 := [(4, .int x_154), (3, .int x_52), (2, .int x_34), (0, .ref x), (1, .ref a0)]) rfl ?_
            refine g_iload C 0 dX9_readPlate_91 rfl ?_
            refine g_iconst C (v := (-1)) dX9_readPlate_93 (by decide) ?_
            refine g_icmp_ne C (tgt := 99) dX9_readPlate_94 (by decide) (fun h_165 => ?_) (fun h_165 => ?_)
            · skip
              have n_166 : ¬ x_154 = (-1) := h_165
              refine g_aload_n C 3 dX9_readPlate_99 rfl rfl ?_
              refine g_getR C K hLx hkx f_9_23 hb_1 dX9_readPlate_100 ?_
              refine g_iload_n C 2 dX9_readPlate_103 rfl rfl ?_
              refine g_iload_n C 1 dX9_readPlate_104 rfl rfl ?_
              refine g_iload C 0 dX9_readPlate_105 rfl ?_
              refine g_callVV C K (c_X1_addToPlate W9 hb_1L hb_1k x_34 x_52 x_154 (r_48) (r_131) hUI_155) hb_1L hb_1k (by decide) rfl v_9_128 rfl ⟨rfl, rfl⟩ ⟨Nat.le_of_ble_eq_true rfl, Nat.le_of_ble_eq_true rfl⟩ (Nat.le_of_ble_eq_true rfl) ⟨Nat.le_of_ble_eq_true rfl, Nat.le_of_ble_eq_true rfl⟩ dX9_readPlate_107 rfl (st := []) (fun I_168 J_169 h_170 => ?_)
              obtain ⟨hUI_168, hFI_168, hGJ_169, fx_167⟩ := h_170
              have hF_171 := fq_tr hF_158 hFI_168 (by decide)
              have hG_172 := fq_tr hG_159 hGJ_169 (by decide)
              obtain ⟨s_174, hs_174⟩ : ∃ z, CPq I_168 J_169 b_1 b_13 = z := ⟨_, rfl⟩
              have c_173 : fAddToPlate (x_34) (x_52) (x_154) (s_14) = s_174 := by have q := fx_167; simp only [ecqx_1, dcqx_1, hs_163, hs_174] at q; exact q.symm
              have hs_175 : TPq I_168 J_169 a0 b_3 b_4 b_5 b_6 b_7 = s_161 := (tq_fq wtqa0 hFI_168 hGJ_169 (by decide) (by decide)).trans hs_161
              have hs_176 : TBq I_168 J_169 b_2 b_9 b_10 b_11 = s_12 := (bq_fq wbqx_0 hFI_168 hGJ_169 (by decide) (by decide)).trans hs_162
              have hs_177 : XPq I_168 J_169 x = s_15 := (xq_fq wxqx hFI_168 hGJ_169 (by decide) (by decide)).trans hs_164
              refine g_aload_n C 4 dX9_readPlate_110 rfl rfl ?_
              refine g_bipush C (v := 59) dX9_readPlate_111 (by decide) ?_
              refine g_callVI C K (c_X10_take W9 hLa0 hka0 59 (rg_w rc_59 (by decide) (by decide)) hUI_168) hLa0 hka0 (by decide) rfl v_9_110 rfl ⟨rfl, rfl⟩ ⟨Nat.le_of_ble_eq_true rfl, Nat.le_of_ble_eq_true rfl⟩ (Nat.le_of_ble_eq_true rfl) ⟨Nat.le_of_ble_eq_true rfl, Nat.le_of_ble_eq_true rfl⟩ dX9_readPlate_113 rfl (st := []) (fun x_178 I_179 J_180 h_181 => ?_)
              obtain ⟨hUI_179, hFI_179, hGJ_180, rx_178, fx_178⟩ := h_181
              have hF_182 := fq_tr hF_171 hFI_179 (by decide)
              have hG_183 := fq_tr hG_172 hGJ_180 (by decide)
              obtain ⟨s_185, hs_185⟩ : ∃ z, TPq I_179 J_180 a0 b_3 b_4 b_5 b_6 b_7 = z := ⟨_, rfl⟩
              have c_184 : fTake (59) (s_161) = (x_178, s_185) := by have q := fx_178; simp only [etqa0, hs_175, hs_185] at q; exact q.symm
              have hs_186 : TBq I_179 J_180 b_2 b_9 b_10 b_11 = s_12 := (bq_fq wbqx_0 hFI_179 hGJ_180 (by decide) (by decide)).trans hs_176
              have hs_187 : CPq I_179 J_180 b_1 b_13 = s_174 := (cq_fq wcqx_1 hFI_179 hGJ_180 (by decide) (by decide)).trans hs_174
              have hs_188 : XPq I_179 J_180 x = s_15 := (xq_fq wxqx hFI_179 hGJ_180 (by decide) (by decide)).trans hs_177
              exact g_zret (ty := .boolean) (r := x_178) B K rfl (nar_z (rx_178)) ⟨hUI_179, hF_182, hG_183, rx_178, (by simp only [fReadPlate, fFailR, fTakeR, fPutPerson, fPutDish, fReadPlate3, etqa0, hs_185, hs_8, ebqx_0, dbqx_0, hs_186, hs_12, ecqx_1, dcqx_1, hs_187, hs_14, exqx, hs_188, hs_15, c_22, hy_27, f_28, c_33, c_40, h_46, hy_50, f_51, c_56, hx_57, f_58, (eq_true h_59), h_115, c_136, h_137, c_145, h_151, c_160, h_165, c_173, c_184, if_true, if_false, bqM_pnm, bqM_par, bqM_dnm, bqM_persons, bqM_dishes, bqM_law, bqM_dogs, TB_.w_pnm, TB_.w_par, TB_.w_dnm, TB_.w_persons, TB_.w_dishes, TB_.w_law, TB_.w_dogs, cqM_pcs, CP_.w_pcs, tqM_by_, tqM_wd, tqM_tk, tqM_pl, tqM_vl, tqM_len, tqM_n, tqM_at_, tqM_token, tqM_place, tqM_value, tqM_fault, tqM_fat, TP_.w_by_, TP_.w_wd, TP_.w_tk, TP_.w_pl, TP_.w_vl, TP_.w_len, TP_.w_n, TP_.w_at_, TP_.w_token, TP_.w_place, TP_.w_value, TP_.w_fault, TP_.w_fat, xqM_lt, xqM_dt, XP_.w_lt, XP_.w_dt])⟩ dX9_readPlate_116
            · skip
              have r_189 := (⟨(eq_rg (h_165) rc_m1).1, (eq_rg (h_165) rc_m1).2⟩ : Rg (-1) (-1) x_154)
              refine g_iconst C (v := 0) dX9_readPlate_97 (by decide) ?_
              exact g_zret (ty := .boolean) (r := 0) B K rfl (rfl) ⟨hUI_155, hF_158, hG_159, rg_w rc_0 (by decide) (by decide), (by simp only [fReadPlate, fFailR, fTakeR, fPutPerson, fPutDish, fReadPlate3, etqa0, hs_161, hs_8, ebqx_0, dbqx_0, hs_162, hs_12, ecqx_1, dcqx_1, hs_163, hs_14, exqx, hs_164, hs_15, c_22, hy_27, f_28, c_33, c_40, h_46, hy_50, f_51, c_56, hx_57, f_58, (eq_true h_59), h_115, c_136, h_137, c_145, h_151, c_160, (eq_true h_165), if_true, if_false, bqM_pnm, bqM_par, bqM_dnm, bqM_persons, bqM_dishes, bqM_law, bqM_dogs, TB_.w_pnm, TB_.w_par, TB_.w_dnm, TB_.w_persons, TB_.w_dishes, TB_.w_law, TB_.w_dogs, cqM_pcs, CP_.w_pcs, tqM_by_, tqM_wd, tqM_tk, tqM_pl, tqM_vl, tqM_len, tqM_n, tqM_at_, tqM_token, tqM_place, tqM_value, tqM_fault, tqM_fat, TP_.w_by_, TP_.w_wd, TP_.w_tk, TP_.w_pl, TP_.w_vl, TP_.w_len, TP_.w_n, TP_.w_at_, TP_.w_token, TP_.w_place, TP_.w_value, TP_.w_fault, TP_.w_fat, xqM_lt, xqM_dt, XP_.w_lt, XP_.w_dt])⟩ dX9_readPlate_98
          · skip
            have r_190 := (⟨(r_150).1, (eq_rg (h_151) rc_m1).2⟩ : Rg (-1) (-1) x_139)
            refine g_iconst C (v := 0) dX9_readPlate_80 (by decide) ?_
            exact g_zret (ty := .boolean) (r := 0) B K rfl (rfl) ⟨hUI_140, hF_143, hG_144, rg_w rc_0 (by decide) (by decide), (by simp only [fReadPlate, fFailR, fTakeR, fPutPerson, fPutDish, fReadPlate3, etqa0, hs_146, hs_8, ebqx_0, dbqx_0, hs_147, hs_12, ecqx_1, dcqx_1, hs_148, hs_14, exqx, hs_149, hs_15, c_22, hy_27, f_28, c_33, c_40, h_46, hy_50, f_51, c_56, hx_57, f_58, (eq_true h_59), h_115, c_136, h_137, c_145, (eq_true h_151), if_true, if_false, bqM_pnm, bqM_par, bqM_dnm, bqM_persons, bqM_dishes, bqM_law, bqM_dogs, TB_.w_pnm, TB_.w_par, TB_.w_dnm, TB_.w_persons, TB_.w_dishes, TB_.w_law, TB_.w_dogs, cqM_pcs, CP_.w_pcs, tqM_by_, tqM_wd, tqM_tk, tqM_pl, tqM_vl, tqM_len, tqM_n, tqM_at_, tqM_token, tqM_place, tqM_value, tqM_fault, tqM_fat, TP_.w_by_, TP_.w_wd, TP_.w_tk, TP_.w_pl, TP_.w_vl, TP_.w_len, TP_.w_n, TP_.w_at_, TP_.w_token, TP_.w_place, TP_.w_value, TP_.w_fault, TP_.w_fat, xqM_lt, xqM_dt, XP_.w_lt, XP_.w_dt])⟩ dX9_readPlate_81
        · skip
          have r_191 := lt_r (lo := 1) (nle h_137) rc_0 rx_132 (by decide)
          refine g_aload_n C 3 dX9_readPlate_65 rfl rfl ?_
          refine g_iconst C (v := 3) dX9_readPlate_66 (by decide) ?_
          refine g_callVI C K (c_X10_fail W9 hLa0 hka0 3 (rg_w rc_3 (by decide) (by decide)) hUI_35) hLa0 hka0 (by decide) rfl v_9_67 rfl ⟨rfl, rfl⟩ ⟨Nat.le_of_ble_eq_true rfl, Nat.le_of_ble_eq_true rfl⟩ (Nat.le_of_ble_eq_true rfl) ⟨Nat.le_of_ble_eq_true rfl, Nat.le_of_ble_eq_true rfl⟩ dX9_readPlate_67 rfl (st := []) (fun x_192 I_193 J_194 h_195 => ?_)
          obtain ⟨hUI_193, hFI_193, hGJ_194, rx_192, fx_192⟩ := h_195
          have hF_196 := fq_tr hF_38 hFI_193 (by decide)
          have hG_197 := fq_tr hG_39 hGJ_194 (by decide)
          obtain ⟨s_199, hs_199⟩ : ∃ z, TPq I_193 J_194 a0 b_3 b_4 b_5 b_6 b_7 = z := ⟨_, rfl⟩
          have c_198 : fFail (3) (s_41) = (x_192, s_199) := by have q := fx_192; simp only [etqa0, hs_41, hs_199] at q; exact q.symm
          have hs_200 : TBq I_193 J_194 b_2 b_9 b_10 b_11 = s_12 := (bq_fq wbqx_0 hFI_193 hGJ_194 (by decide) (by decide)).trans hs_42
          have hs_201 : CPq I_193 J_194 b_1 b_13 = s_14 := (cq_fq wcqx_1 hFI_193 hGJ_194 (by decide) (by decide)).trans hs_43
          have hs_202 : XPq I_193 J_194 x = s_15 := (xq_fq wxqx hFI_193 hGJ_194 (by decide) (by decide)).trans hs_44
          exact g_zret (ty := .boolean) (r := x_192) B K rfl (nar_z (rg_w rx_192 (by decide) (by decide))) ⟨hUI_193, hF_196, hG_197, rg_w rx_192 (by decide) (by decide), (by simp only [fReadPlate, fFailR, fTakeR, fPutPerson, fPutDish, fReadPlate3, etqa0, hs_199, hs_8, ebqx_0, dbqx_0, hs_200, hs_12, ecqx_1, dcqx_1, hs_201, hs_14, exqx, hs_202, hs_15, c_22, hy_27, f_28, c_33, c_40, h_46, hy_50, f_51, c_56, hx_57, f_58, (eq_true h_59), h_115, c_136, h_137, (nle h_137), c_198, if_true, if_false, bqM_pnm, bqM_par, bqM_dnm, bqM_persons, bqM_dishes, bqM_law, bqM_dogs, TB_.w_pnm, TB_.w_par, TB_.w_dnm, TB_.w_persons, TB_.w_dishes, TB_.w_law, TB_.w_dogs, cqM_pcs, CP_.w_pcs, tqM_by_, tqM_wd, tqM_tk, tqM_pl, tqM_vl, tqM_len, tqM_n, tqM_at_, tqM_token, tqM_place, tqM_value, tqM_fault, tqM_fat, TP_.w_by_, TP_.w_wd, TP_.w_tk, TP_.w_pl, TP_.w_vl, TP_.w_len, TP_.w_n, TP_.w_at_, TP_.w_token, TP_.w_place, TP_.w_value, TP_.w_fault, TP_.w_fat, xqM_lt, xqM_dt, XP_.w_lt, XP_.w_dt])⟩ dX9_readPlate_70
  · skip
    have r_203 := (⟨(r_45).1, (eq_rg (h_46) rc_m1).2⟩ : Rg (-1) (-1) x_34)
    refine g_iconst C (v := 0) dX9_readPlate_25 (by decide) ?_
    exact g_zret (ty := .boolean) (r := 0) B K rfl (rfl) ⟨hUI_35, hF_38, hG_39, rg_w rc_0 (by decide) (by decide), (by simp only [fReadPlate, fFailR, fTakeR, fPutPerson, fPutDish, fReadPlate3, etqa0, hs_41, hs_8, ebqx_0, dbqx_0, hs_42, hs_12, ecqx_1, dcqx_1, hs_43, hs_14, exqx, hs_44, hs_15, c_22, hy_27, f_28, c_33, c_40, (eq_true h_46), if_true, if_false, bqM_pnm, bqM_par, bqM_dnm, bqM_persons, bqM_dishes, bqM_law, bqM_dogs, TB_.w_pnm, TB_.w_par, TB_.w_dnm, TB_.w_persons, TB_.w_dishes, TB_.w_law, TB_.w_dogs, cqM_pcs, CP_.w_pcs, tqM_by_, tqM_wd, tqM_tk, tqM_pl, tqM_vl, tqM_len, tqM_n, tqM_at_, tqM_token, tqM_place, tqM_value, tqM_fault, tqM_fat, TP_.w_by_, TP_.w_wd, TP_.w_tk, TP_.w_pl, TP_.w_vl, TP_.w_len, TP_.w_n, TP_.w_at_, TP_.w_token, TP_.w_place, TP_.w_value, TP_.w_fault, TP_.w_fat, xqM_lt, xqM_dt, XP_.w_lt, XP_.w_dt])⟩ dX9_readPlate_26
set_option maxRecDepth 100000 in
set_option maxHeartbeats 8000000 in
theorem c_X9_readLine {l : Launch} {D : va_G} {cy : Nat → ClassId} {L : List Nat} {κ ln : Nat → Nat} {R : Nat → Nat → Option Nat} {I : Nat → Nat → Int32} {J : Nat → Nat → Int64} {ow : Nat → Nat × Nat} (W9 : ∀ a ∈ L, Shp L κ ln R ow a) {x : Nat} (hLx : x ∈ L) (hkx : κ x = 9) {a0 : Nat} (hLa0 : a0 ∈ L) (hka0 : κ a0 = 10) (hU : Iv L κ R ow I) : CtI l yX9_readLine cX9_readLine 2 (some .boolean) { frames := 3, cells := 0, slots := 0, locals := 69 } D cy L κ ln R I J [.ref x, .ref a0] (fun r I2 J2 => Iv L κ R ow I2 ∧ Fq L κ ow [805, 806, 807, 808, 902, 903, 1007, 1008, 1009, 1011, 1012, 16100, 16200, 16300, 58100, 58200, 58400] I I2 ∧ Fq L κ ow [1010, 58000, 58300] J J2 ∧ Rg 0 1 r ∧ ((r, TPf R I2 J2 a0, TBf R I2 J2 (rr_ R x 0), CPf R I2 J2 (rr_ R x 1), XPf R I2 J2 x) = fReadLine (TPf R I J a0) (TBf R I J (rr_ R x 0)) (CPf R I J (rr_ R x 1)) (XPf R I J x))) := by
  refine CtI.of (by decide +kernel) (Nat.le_of_ble_eq_true rfl) ?_
  intro p e s m below meth c B K
  have C := B.1
  have hF : Fq L κ ow [805, 806, 807, 808, 902, 903, 1007, 1008, 1009, 1011, 1012, 16100, 16200, 16300, 58100, 58200, 58400] I I := fq_rf
  have hG : Fq L κ ow [1010, 58000, 58300] J J := fq_rf
  obtain ⟨b_1, hb_1, hb_1L, hb_1k, hb_1n, hb_1o⟩ := shp_a (W9 a0 hLa0) hka0 0 13 940 rfl (by decide)
  obtain ⟨b_2, hb_2, hb_2L, hb_2k, hb_2n, hb_2o⟩ := shp_a (W9 a0 hLa0) hka0 1 15 28 rfl (by decide)
  obtain ⟨b_3, hb_3, hb_3L, hb_3k, hb_3n, hb_3o⟩ := shp_a (W9 a0 hLa0) hka0 2 14 901 rfl (by decide)
  obtain ⟨b_4, hb_4, hb_4L, hb_4k, hb_4n, hb_4o⟩ := shp_a (W9 a0 hLa0) hka0 3 14 901 rfl (by decide)
  obtain ⟨b_5, hb_5, hb_5L, hb_5k, hb_5n, hb_5o⟩ := shp_a (W9 a0 hLa0) hka0 4 15 901 rfl (by decide)
  have etqa0 : ∀ I J, TPf R I J a0 = TPq I J a0 b_1 b_2 b_3 b_4 b_5 := fun I J => by simp only [TPf, rr_, Option.getD_some, hb_1, hb_2, hb_3, hb_4, hb_5]
  have wtqa0 : tqw_ L κ ow a0 b_1 b_2 b_3 b_4 b_5 := ⟨⟨hLa0, hb_1L, hb_2L, hb_3L, hb_4L, hb_5L⟩, ⟨(ro_o hka0 (by decide)), (ro_a hb_1k (by decide) hb_1o hka0 rfl), (ro_a hb_2k (by decide) hb_2o hka0 rfl), (ro_a hb_3k (by decide) hb_3o hka0 rfl), (ro_a hb_4k (by decide) hb_4o hka0 rfl), (ro_a hb_5k (by decide) hb_5o hka0 rfl)⟩⟩
  obtain ⟨s_6, hs_6⟩ : ∃ z, TPq I J a0 b_1 b_2 b_3 b_4 b_5 = z := ⟨_, rfl⟩
  obtain ⟨b_7, hb_7, hb_7L, hb_7k⟩ := shp_o (W9 x hLx) hkx 0 8 rfl (by decide)
  obtain ⟨b_8, hb_8, hb_8L, hb_8k, hb_8n, hb_8o⟩ := shp_a (W9 b_7 hb_7L) hb_7k 0 15 7 rfl (by decide)
  obtain ⟨b_9, hb_9, hb_9L, hb_9k, hb_9n, hb_9o⟩ := shp_a (W9 b_7 hb_7L) hb_7k 2 14 7 rfl (by decide)
  obtain ⟨b_10, hb_10, hb_10L, hb_10k, hb_10n, hb_10o⟩ := shp_a (W9 b_7 hb_7L) hb_7k 3 15 6 rfl (by decide)
  have ebqx_0 : ∀ I J, TBf R I J (rr_ R x 0) = TBq I J b_7 b_8 b_9 b_10 := fun I J => by simp only [TBf, rr_, Option.getD_some, hb_8, hb_9, hb_10, hb_7]
  have dbqx_0 : ∀ I J, TBf R I J b_7 = TBq I J b_7 b_8 b_9 b_10 := fun I J => by simp only [TBf, rr_, Option.getD_some, hb_8, hb_9, hb_10, hb_7]
  have wbqx_0 : bqw_ L κ ow b_7 b_8 b_9 b_10 := ⟨⟨hb_7L, hb_8L, hb_9L, hb_10L⟩, ⟨(ro_o hb_7k (by decide)), (ro_a hb_8k (by decide) hb_8o hb_7k rfl), (ro_a hb_9k (by decide) hb_9o hb_7k rfl), (ro_a hb_10k (by decide) hb_10o hb_7k rfl)⟩⟩
  obtain ⟨s_11, hs_11⟩ : ∃ z, TBq I J b_7 b_8 b_9 b_10 = z := ⟨_, rfl⟩
  obtain ⟨b_12, hb_12, hb_12L, hb_12k⟩ := shp_o (W9 x hLx) hkx 1 1 rfl (by decide)
  obtain ⟨b_13, hb_13, hb_13L, hb_13k, hb_13n, hb_13o⟩ := shp_a (W9 b_12 hb_12L) hb_12k 2 14 42 rfl (by decide)
  have ecqx_1 : ∀ I J, CPf R I J (rr_ R x 1) = CPq I J b_12 b_13 := fun I J => by simp only [CPf, rr_, Option.getD_some, hb_13, hb_12]
  have dcqx_1 : ∀ I J, CPf R I J b_12 = CPq I J b_12 b_13 := fun I J => by simp only [CPf, rr_, Option.getD_some, hb_13, hb_12]
  have wcqx_1 : cqw_ L κ ow b_12 b_13 := ⟨⟨hb_12L, hb_13L⟩, ⟨(ro_o hb_12k (by decide)), (ro_a hb_13k (by decide) hb_13o hb_12k rfl)⟩⟩
  obtain ⟨s_14, hs_14⟩ : ∃ z, CPq I J b_12 b_13 = z := ⟨_, rfl⟩
  have exqx : ∀ I J, XPf R I J x = XPq I J x := fun I J => by simp only [XPf, rr_, Option.getD_some]
  have wxqx : xqw_ L κ ow x := ⟨hLx, (ro_o hkx (by decide))⟩
  obtain ⟨s_15, hs_15⟩ : ∃ z, XPq I J x = z := ⟨_, rfl⟩
  refine g_lo (is := [0, 1]) (lo2 := [(0, .ref x), (1, .ref a0)]) rfl ?_
  refine g_aload_n C 1 dX9_readLine_0 rfl rfl ?_
  obtain ⟨x_16, hx_16, rx_16⟩ := ex_get (I := I) (a := a0) (j := 8) (lo := (-2147483648)) (hi := 2147483647) hU.1 hLa0 (ro_o hka0 (by decide)) rfl
  have f_17 : s_6.token = x_16 := (congrArg TP_.token hs_6).symm.trans hx_16
  refine g_getI C K hLa0 hka0 f_9_44 (v := x_16) hx_16 dX9_readLine_1 ?_
  by_cases c_18 : x_16.toInt = 0
  · skip
    have r_19 := rg_of (a := 0) (b := 0) 0 c_18 (by decide) (by decide)
    refine g_tableIn C (tgt := 40) dX9_readLine_4 (by omega) (by omega) (off := 36) (by rw [c_18]; rfl) (by decide) ?_
    refine g_aload_n C 0 dX9_readLine_40 rfl rfl ?_
    refine g_aload_n C 1 dX9_readLine_41 rfl rfl ?_
    refine g_callVI C K (c_X9_readPerson W9 hLx hkx hLa0 hka0  hU) hLx hkx (by decide) rfl v_9_52 rfl ⟨rfl, rfl⟩ ⟨Nat.le_of_ble_eq_true rfl, Nat.le_of_ble_eq_true rfl⟩ (Nat.le_of_ble_eq_true rfl) ⟨Nat.le_of_ble_eq_true rfl, Nat.le_of_ble_eq_true rfl⟩ dX9_readLine_42 rfl (st := []) (fun x_20 I_21 J_22 h_23 => ?_)
    obtain ⟨hUI_21, hFI_21, hGJ_22, rx_20, fx_20⟩ := h_23
    have hF_24 := fq_tr hF hFI_21 (by decide)
    have hG_25 := fq_tr hG hGJ_22 (by decide)
    obtain ⟨s_27, hs_27⟩ : ∃ z, TPq I_21 J_22 a0 b_1 b_2 b_3 b_4 b_5 = z := ⟨_, rfl⟩
    obtain ⟨s_28, hs_28⟩ : ∃ z, TBq I_21 J_22 b_7 b_8 b_9 b_10 = z := ⟨_, rfl⟩
    obtain ⟨s_29, hs_29⟩ : ∃ z, CPq I_21 J_22 b_12 b_13 = z := ⟨_, rfl⟩
    obtain ⟨s_30, hs_30⟩ : ∃ z, XPq I_21 J_22 x = z := ⟨_, rfl⟩
    have c_26 : fReadPerson (s_6) (s_11) (s_14) (s_15) = (x_20, s_27, s_28, s_29, s_30) := by have q := fx_20; simp only [etqa0, ebqx_0, dbqx_0, ecqx_1, dcqx_1, exqx, hs_6, hs_11, hs_14, hs_15, hs_27, hs_28, hs_29, hs_30] at q; exact q.symm
    exact g_zret (ty := .boolean) (r := x_20) B K rfl (nar_z (rx_20)) ⟨hUI_21, hF_24, hG_25, rx_20, (by simp only [fReadLine, fFailR, fTakeR, fPutPerson, fPutDish, fReadPlate3, etqa0, hs_27, hs_6, ebqx_0, dbqx_0, hs_28, hs_11, ecqx_1, dcqx_1, hs_29, hs_14, exqx, hs_30, hs_15, hx_16, f_17, (eq_true c_18), c_26, if_true, if_false, bqM_pnm, bqM_par, bqM_dnm, bqM_persons, bqM_dishes, bqM_law, bqM_dogs, TB_.w_pnm, TB_.w_par, TB_.w_dnm, TB_.w_persons, TB_.w_dishes, TB_.w_law, TB_.w_dogs, cqM_pcs, CP_.w_pcs, tqM_by_, tqM_wd, tqM_tk, tqM_pl, tqM_vl, tqM_len, tqM_n, tqM_at_, tqM_token, tqM_place, tqM_value, tqM_fault, tqM_fat, TP_.w_by_, TP_.w_wd, TP_.w_tk, TP_.w_pl, TP_.w_vl, TP_.w_len, TP_.w_n, TP_.w_at_, TP_.w_token, TP_.w_place, TP_.w_value, TP_.w_fault, TP_.w_fat, xqM_lt, xqM_dt, XP_.w_lt, XP_.w_dt])⟩ dX9_readLine_45
  by_cases c_31 : x_16.toInt = 1
  · skip
    have r_32 := rg_of (a := 1) (b := 1) 1 c_31 (by decide) (by decide)
    refine g_tableIn C (tgt := 46) dX9_readLine_4 (by omega) (by omega) (off := 42) (by rw [c_31]; rfl) (by decide) ?_
    refine g_aload_n C 0 dX9_readLine_46 rfl rfl ?_
    refine g_aload_n C 1 dX9_readLine_47 rfl rfl ?_
    refine g_callVI C K (c_X9_readDish W9 hLx hkx hLa0 hka0  hU) hLx hkx (by decide) rfl v_9_55 rfl ⟨rfl, rfl⟩ ⟨Nat.le_of_ble_eq_true rfl, Nat.le_of_ble_eq_true rfl⟩ (Nat.le_of_ble_eq_true rfl) ⟨Nat.le_of_ble_eq_true rfl, Nat.le_of_ble_eq_true rfl⟩ dX9_readLine_48 rfl (st := []) (fun x_33 I_34 J_35 h_36 => ?_)
    obtain ⟨hUI_34, hFI_34, hGJ_35, rx_33, fx_33⟩ := h_36
    have hF_37 := fq_tr hF hFI_34 (by decide)
    have hG_38 := fq_tr hG hGJ_35 (by decide)
    obtain ⟨s_40, hs_40⟩ : ∃ z, TPq I_34 J_35 a0 b_1 b_2 b_3 b_4 b_5 = z := ⟨_, rfl⟩
    obtain ⟨s_41, hs_41⟩ : ∃ z, TBq I_34 J_35 b_7 b_8 b_9 b_10 = z := ⟨_, rfl⟩
    obtain ⟨s_42, hs_42⟩ : ∃ z, CPq I_34 J_35 b_12 b_13 = z := ⟨_, rfl⟩
    obtain ⟨s_43, hs_43⟩ : ∃ z, XPq I_34 J_35 x = z := ⟨_, rfl⟩
    have c_39 : fReadDish (s_6) (s_11) (s_14) (s_15) = (x_33, s_40, s_41, s_42, s_43) := by have q := fx_33; simp only [etqa0, ebqx_0, dbqx_0, ecqx_1, dcqx_1, exqx, hs_6, hs_11, hs_14, hs_15, hs_40, hs_41, hs_42, hs_43] at q; exact q.symm
    exact g_zret (ty := .boolean) (r := x_33) B K rfl (nar_z (rx_33)) ⟨hUI_34, hF_37, hG_38, rx_33, (by simp only [fReadLine, fFailR, fTakeR, fPutPerson, fPutDish, fReadPlate3, etqa0, hs_40, hs_6, ebqx_0, dbqx_0, hs_41, hs_11, ecqx_1, dcqx_1, hs_42, hs_14, exqx, hs_43, hs_15, hx_16, f_17, c_18, (eq_true c_31), c_39, if_true, if_false, bqM_pnm, bqM_par, bqM_dnm, bqM_persons, bqM_dishes, bqM_law, bqM_dogs, TB_.w_pnm, TB_.w_par, TB_.w_dnm, TB_.w_persons, TB_.w_dishes, TB_.w_law, TB_.w_dogs, cqM_pcs, CP_.w_pcs, tqM_by_, tqM_wd, tqM_tk, tqM_pl, tqM_vl, tqM_len, tqM_n, tqM_at_, tqM_token, tqM_place, tqM_value, tqM_fault, tqM_fat, TP_.w_by_, TP_.w_wd, TP_.w_tk, TP_.w_pl, TP_.w_vl, TP_.w_len, TP_.w_n, TP_.w_at_, TP_.w_token, TP_.w_place, TP_.w_value, TP_.w_fault, TP_.w_fat, xqM_lt, xqM_dt, XP_.w_lt, XP_.w_dt])⟩ dX9_readLine_51
  by_cases c_44 : x_16.toInt = 2
  · skip
    have r_45 := rg_of (a := 2) (b := 2) 2 c_44 (by decide) (by decide)
    refine g_tableIn C (tgt := 52) dX9_readLine_4 (by omega) (by omega) (off := 48) (by rw [c_44]; rfl) (by decide) ?_
    refine g_aload_n C 0 dX9_readLine_52 rfl rfl ?_
    refine g_aload_n C 1 dX9_readLine_53 rfl rfl ?_
    refine g_callVI C K (c_X9_readPlate W9 hLx hkx hLa0 hka0  hU) hLx hkx (by decide) rfl v_9_58 rfl ⟨rfl, rfl⟩ ⟨Nat.le_of_ble_eq_true rfl, Nat.le_of_ble_eq_true rfl⟩ (Nat.le_of_ble_eq_true rfl) ⟨Nat.le_of_ble_eq_true rfl, Nat.le_of_ble_eq_true rfl⟩ dX9_readLine_54 rfl (st := []) (fun x_46 I_47 J_48 h_49 => ?_)
    obtain ⟨hUI_47, hFI_47, hGJ_48, rx_46, fx_46⟩ := h_49
    have hF_50 := fq_tr hF hFI_47 (by decide)
    have hG_51 := fq_tr hG hGJ_48 (by decide)
    obtain ⟨s_53, hs_53⟩ : ∃ z, TPq I_47 J_48 a0 b_1 b_2 b_3 b_4 b_5 = z := ⟨_, rfl⟩
    obtain ⟨s_54, hs_54⟩ : ∃ z, TBq I_47 J_48 b_7 b_8 b_9 b_10 = z := ⟨_, rfl⟩
    obtain ⟨s_55, hs_55⟩ : ∃ z, CPq I_47 J_48 b_12 b_13 = z := ⟨_, rfl⟩
    obtain ⟨s_56, hs_56⟩ : ∃ z, XPq I_47 J_48 x = z := ⟨_, rfl⟩
    have c_52 : fReadPlate (s_6) (s_11) (s_14) (s_15) = (x_46, s_53, s_54, s_55, s_56) := by have q := fx_46; simp only [etqa0, ebqx_0, dbqx_0, ecqx_1, dcqx_1, exqx, hs_6, hs_11, hs_14, hs_15, hs_53, hs_54, hs_55, hs_56] at q; exact q.symm
    exact g_zret (ty := .boolean) (r := x_46) B K rfl (nar_z (rx_46)) ⟨hUI_47, hF_50, hG_51, rx_46, (by simp only [fReadLine, fFailR, fTakeR, fPutPerson, fPutDish, fReadPlate3, etqa0, hs_53, hs_6, ebqx_0, dbqx_0, hs_54, hs_11, ecqx_1, dcqx_1, hs_55, hs_14, exqx, hs_56, hs_15, hx_16, f_17, c_18, c_31, (eq_true c_44), c_52, if_true, if_false, bqM_pnm, bqM_par, bqM_dnm, bqM_persons, bqM_dishes, bqM_law, bqM_dogs, TB_.w_pnm, TB_.w_par, TB_.w_dnm, TB_.w_persons, TB_.w_dishes, TB_.w_law, TB_.w_dogs, cqM_pcs, CP_.w_pcs, tqM_by_, tqM_wd, tqM_tk, tqM_pl, tqM_vl, tqM_len, tqM_n, tqM_at_, tqM_token, tqM_place, tqM_value, tqM_fault, tqM_fat, TP_.w_by_, TP_.w_wd, TP_.w_tk, TP_.w_pl, TP_.w_vl, TP_.w_len, TP_.w_n, TP_.w_at_, TP_.w_token, TP_.w_place, TP_.w_value, TP_.w_fault, TP_.w_fat, xqM_lt, xqM_dt, XP_.w_lt, XP_.w_dt])⟩ dX9_readLine_57
  by_cases c_57 : x_16.toInt = 3
  · skip
    have r_58 := rg_of (a := 3) (b := 3) 3 c_57 (by decide) (by decide)
    refine g_tableIn C (tgt := 58) dX9_readLine_4 (by omega) (by omega) (off := 54) (by rw [c_57]; rfl) (by decide) ?_
    refine g_aload_n C 0 dX9_readLine_58 rfl rfl ?_
    refine g_aload_n C 1 dX9_readLine_59 rfl rfl ?_
    refine g_callVI C K (c_X9_readLaw W9 hLx hkx hLa0 hka0  hU) hLx hkx (by decide) rfl v_9_61 rfl ⟨rfl, rfl⟩ ⟨Nat.le_of_ble_eq_true rfl, Nat.le_of_ble_eq_true rfl⟩ (Nat.le_of_ble_eq_true rfl) ⟨Nat.le_of_ble_eq_true rfl, Nat.le_of_ble_eq_true rfl⟩ dX9_readLine_60 rfl (st := []) (fun x_59 I_60 J_61 h_62 => ?_)
    obtain ⟨hUI_60, hFI_60, hGJ_61, rx_59, fx_59⟩ := h_62
    have hF_63 := fq_tr hF hFI_60 (by decide)
    have hG_64 := fq_tr hG hGJ_61 (by decide)
    obtain ⟨s_66, hs_66⟩ : ∃ z, TPq I_60 J_61 a0 b_1 b_2 b_3 b_4 b_5 = z := ⟨_, rfl⟩
    obtain ⟨s_67, hs_67⟩ : ∃ z, TBq I_60 J_61 b_7 b_8 b_9 b_10 = z := ⟨_, rfl⟩
    obtain ⟨s_68, hs_68⟩ : ∃ z, CPq I_60 J_61 b_12 b_13 = z := ⟨_, rfl⟩
    obtain ⟨s_69, hs_69⟩ : ∃ z, XPq I_60 J_61 x = z := ⟨_, rfl⟩
    have c_65 : fReadLaw (s_6) (s_11) (s_14) (s_15) = (x_59, s_66, s_67, s_68, s_69) := by have q := fx_59; simp only [etqa0, ebqx_0, dbqx_0, ecqx_1, dcqx_1, exqx, hs_6, hs_11, hs_14, hs_15, hs_66, hs_67, hs_68, hs_69] at q; exact q.symm
    exact g_zret (ty := .boolean) (r := x_59) B K rfl (nar_z (rx_59)) ⟨hUI_60, hF_63, hG_64, rx_59, (by simp only [fReadLine, fFailR, fTakeR, fPutPerson, fPutDish, fReadPlate3, etqa0, hs_66, hs_6, ebqx_0, dbqx_0, hs_67, hs_11, ecqx_1, dcqx_1, hs_68, hs_14, exqx, hs_69, hs_15, hx_16, f_17, c_18, c_31, c_44, (eq_true c_57), c_65, if_true, if_false, bqM_pnm, bqM_par, bqM_dnm, bqM_persons, bqM_dishes, bqM_law, bqM_dogs, TB_.w_pnm, TB_.w_par, TB_.w_dnm, TB_.w_persons, TB_.w_dishes, TB_.w_law, TB_.w_dogs, cqM_pcs, CP_.w_pcs, tqM_by_, tqM_wd, tqM_tk, tqM_pl, tqM_vl, tqM_len, tqM_n, tqM_at_, tqM_token, tqM_place, tqM_value, tqM_fault, tqM_fat, TP_.w_by_, TP_.w_wd, TP_.w_tk, TP_.w_pl, TP_.w_vl, TP_.w_len, TP_.w_n, TP_.w_at_, TP_.w_token, TP_.w_place, TP_.w_value, TP_.w_fault, TP_.w_fat, xqM_lt, xqM_dt, XP_.w_lt, XP_.w_dt])⟩ dX9_readLine_63
  by_cases c_70 : x_16.toInt = 4
  · skip
    have r_71 := rg_of (a := 4) (b := 4) 4 c_70 (by decide) (by decide)
    refine g_tableIn C (tgt := 64) dX9_readLine_4 (by omega) (by omega) (off := 60) (by rw [c_70]; rfl) (by decide) ?_
    refine g_aload_n C 0 dX9_readLine_64 rfl rfl ?_
    refine g_aload_n C 1 dX9_readLine_65 rfl rfl ?_
    refine g_callVI C K (c_X9_readDogs W9 hLx hkx hLa0 hka0  hU) hLx hkx (by decide) rfl v_9_64 rfl ⟨rfl, rfl⟩ ⟨Nat.le_of_ble_eq_true rfl, Nat.le_of_ble_eq_true rfl⟩ (Nat.le_of_ble_eq_true rfl) ⟨Nat.le_of_ble_eq_true rfl, Nat.le_of_ble_eq_true rfl⟩ dX9_readLine_66 rfl (st := []) (fun x_72 I_73 J_74 h_75 => ?_)
    obtain ⟨hUI_73, hFI_73, hGJ_74, rx_72, fx_72⟩ := h_75
    have hF_76 := fq_tr hF hFI_73 (by decide)
    have hG_77 := fq_tr hG hGJ_74 (by decide)
    obtain ⟨s_79, hs_79⟩ : ∃ z, TPq I_73 J_74 a0 b_1 b_2 b_3 b_4 b_5 = z := ⟨_, rfl⟩
    obtain ⟨s_80, hs_80⟩ : ∃ z, TBq I_73 J_74 b_7 b_8 b_9 b_10 = z := ⟨_, rfl⟩
    obtain ⟨s_81, hs_81⟩ : ∃ z, CPq I_73 J_74 b_12 b_13 = z := ⟨_, rfl⟩
    obtain ⟨s_82, hs_82⟩ : ∃ z, XPq I_73 J_74 x = z := ⟨_, rfl⟩
    have c_78 : fReadDogs (s_6) (s_11) (s_14) (s_15) = (x_72, s_79, s_80, s_81, s_82) := by have q := fx_72; simp only [etqa0, ebqx_0, dbqx_0, ecqx_1, dcqx_1, exqx, hs_6, hs_11, hs_14, hs_15, hs_79, hs_80, hs_81, hs_82] at q; exact q.symm
    exact g_zret (ty := .boolean) (r := x_72) B K rfl (nar_z (rx_72)) ⟨hUI_73, hF_76, hG_77, rx_72, (by simp only [fReadLine, fFailR, fTakeR, fPutPerson, fPutDish, fReadPlate3, etqa0, hs_79, hs_6, ebqx_0, dbqx_0, hs_80, hs_11, ecqx_1, dcqx_1, hs_81, hs_14, exqx, hs_82, hs_15, hx_16, f_17, c_18, c_31, c_44, c_57, (eq_true c_70), c_78, if_true, if_false, bqM_pnm, bqM_par, bqM_dnm, bqM_persons, bqM_dishes, bqM_law, bqM_dogs, TB_.w_pnm, TB_.w_par, TB_.w_dnm, TB_.w_persons, TB_.w_dishes, TB_.w_law, TB_.w_dogs, cqM_pcs, CP_.w_pcs, tqM_by_, tqM_wd, tqM_tk, tqM_pl, tqM_vl, tqM_len, tqM_n, tqM_at_, tqM_token, tqM_place, tqM_value, tqM_fault, tqM_fat, TP_.w_by_, TP_.w_wd, TP_.w_tk, TP_.w_pl, TP_.w_vl, TP_.w_len, TP_.w_n, TP_.w_at_, TP_.w_token, TP_.w_place, TP_.w_value, TP_.w_fault, TP_.w_fat, xqM_lt, xqM_dt, XP_.w_lt, XP_.w_dt])⟩ dX9_readLine_69
  obtain ⟨q_831, q_832⟩ := rx_16
  refine g_tableOut C (tgt := 70) dX9_readLine_4 (by omega) (by decide) ?_
  refine g_aload_n C 1 dX9_readLine_70 rfl rfl ?_
  refine g_iconst C (v := 1) dX9_readLine_71 (by decide) ?_
  refine g_callVI C K (c_X10_fail W9 hLa0 hka0 1 (rg_w rc_1 (by decide) (by decide)) hU) hLa0 hka0 (by decide) rfl v_9_67 rfl ⟨rfl, rfl⟩ ⟨Nat.le_of_ble_eq_true rfl, Nat.le_of_ble_eq_true rfl⟩ (Nat.le_of_ble_eq_true rfl) ⟨Nat.le_of_ble_eq_true rfl, Nat.le_of_ble_eq_true rfl⟩ dX9_readLine_72 rfl (st := []) (fun x_84 I_85 J_86 h_87 => ?_)
  obtain ⟨hUI_85, hFI_85, hGJ_86, rx_84, fx_84⟩ := h_87
  have hF_88 := fq_tr hF hFI_85 (by decide)
  have hG_89 := fq_tr hG hGJ_86 (by decide)
  obtain ⟨s_91, hs_91⟩ : ∃ z, TPq I_85 J_86 a0 b_1 b_2 b_3 b_4 b_5 = z := ⟨_, rfl⟩
  have c_90 : fFail (1) (s_6) = (x_84, s_91) := by have q := fx_84; simp only [etqa0, hs_6, hs_91] at q; exact q.symm
  have hs_92 : TBq I_85 J_86 b_7 b_8 b_9 b_10 = s_11 := (bq_fq wbqx_0 hFI_85 hGJ_86 (by decide) (by decide)).trans hs_11
  have hs_93 : CPq I_85 J_86 b_12 b_13 = s_14 := (cq_fq wcqx_1 hFI_85 hGJ_86 (by decide) (by decide)).trans hs_14
  have hs_94 : XPq I_85 J_86 x = s_15 := (xq_fq wxqx hFI_85 hGJ_86 (by decide) (by decide)).trans hs_15
  exact g_zret (ty := .boolean) (r := x_84) B K rfl (nar_z (rg_w rx_84 (by decide) (by decide))) ⟨hUI_85, hF_88, hG_89, rg_w rx_84 (by decide) (by decide), (by simp only [fReadLine, fFailR, fTakeR, fPutPerson, fPutDish, fReadPlate3, etqa0, hs_91, hs_6, ebqx_0, dbqx_0, hs_92, hs_11, ecqx_1, dcqx_1, hs_93, hs_14, exqx, hs_94, hs_15, hx_16, f_17, c_18, c_31, c_44, c_57, c_70, c_90, if_true, if_false, bqM_pnm, bqM_par, bqM_dnm, bqM_persons, bqM_dishes, bqM_law, bqM_dogs, TB_.w_pnm, TB_.w_par, TB_.w_dnm, TB_.w_persons, TB_.w_dishes, TB_.w_law, TB_.w_dogs, cqM_pcs, CP_.w_pcs, tqM_by_, tqM_wd, tqM_tk, tqM_pl, tqM_vl, tqM_len, tqM_n, tqM_at_, tqM_token, tqM_place, tqM_value, tqM_fault, tqM_fat, TP_.w_by_, TP_.w_wd, TP_.w_tk, TP_.w_pl, TP_.w_vl, TP_.w_len, TP_.w_n, TP_.w_at_, TP_.w_token, TP_.w_place, TP_.w_value, TP_.w_fault, TP_.w_fat, xqM_lt, xqM_dt, XP_.w_lt, XP_.w_dt])⟩ dX9_readLine_75
set_option maxRecDepth 100000 in
set_option maxHeartbeats 8000000 in
theorem c_X9_readFrom {l : Launch} {D : va_G} {cy : Nat → ClassId} {L : List Nat} {κ ln : Nat → Nat} {R : Nat → Nat → Option Nat} {I : Nat → Nat → Int32} {J : Nat → Nat → Int64} {ow : Nat → Nat × Nat} (W9 : ∀ a ∈ L, Shp L κ ln R ow a) {x : Nat} (hLx : x ∈ L) (hkx : κ x = 9) {a0 : Nat} (hLa0 : a0 ∈ L) (hka0 : κ a0 = 10) (hU : Iv L κ R ow I) : CtI l yX9_readFrom cX9_readFrom 3 (some .int) { frames := 4, cells := 0, slots := 0, locals := 90 } D cy L κ ln R I J [.ref x, .ref a0] (fun r I2 J2 => Iv L κ R ow I2 ∧ Fq L κ ow [107, 108, 109, 110, 111, 112, 805, 806, 807, 808, 902, 903, 1006, 1007, 1008, 1009, 1011, 1012, 16100, 16200, 16300, 16400, 16500, 16600, 58100, 58200, 58400, 70200, 70300] I I2 ∧ Fq L κ ow [1010, 58000, 58300, 70400] J J2 ∧ Rg 0 900 r ∧ ((r, TPf R I2 J2 a0, TBf R I2 J2 (rr_ R x 0), CPf R I2 J2 (rr_ R x 1), XPf R I2 J2 x) = fReadFrom (TPf R I J a0) (TBf R I J (rr_ R x 0)) (CPf R I J (rr_ R x 1)) (XPf R I J x))) := by
  refine CtI.of (by decide +kernel) (Nat.le_of_ble_eq_true rfl) ?_
  intro p e s m below meth c B K
  have C := B.1
  have hF : Fq L κ ow [107, 108, 109, 110, 111, 112, 805, 806, 807, 808, 902, 903, 1006, 1007, 1008, 1009, 1011, 1012, 16100, 16200, 16300, 16400, 16500, 16600, 58100, 58200, 58400, 70200, 70300] I I := fq_rf
  have hG : Fq L κ ow [1010, 58000, 58300, 70400] J J := fq_rf
  obtain ⟨b_1, hb_1, hb_1L, hb_1k⟩ := shp_o (W9 x hLx) hkx 1 1 rfl (by decide)
  obtain ⟨b_2, hb_2, hb_2L, hb_2k⟩ := shp_o (W9 x hLx) hkx 0 8 rfl (by decide)
  obtain ⟨b_3, hb_3, hb_3L, hb_3k, hb_3n, hb_3o⟩ := shp_a (W9 a0 hLa0) hka0 0 13 940 rfl (by decide)
  obtain ⟨b_4, hb_4, hb_4L, hb_4k, hb_4n, hb_4o⟩ := shp_a (W9 a0 hLa0) hka0 1 15 28 rfl (by decide)
  obtain ⟨b_5, hb_5, hb_5L, hb_5k, hb_5n, hb_5o⟩ := shp_a (W9 a0 hLa0) hka0 2 14 901 rfl (by decide)
  obtain ⟨b_6, hb_6, hb_6L, hb_6k, hb_6n, hb_6o⟩ := shp_a (W9 a0 hLa0) hka0 3 14 901 rfl (by decide)
  obtain ⟨b_7, hb_7, hb_7L, hb_7k, hb_7n, hb_7o⟩ := shp_a (W9 a0 hLa0) hka0 4 15 901 rfl (by decide)
  have etqa0 : ∀ I J, TPf R I J a0 = TPq I J a0 b_3 b_4 b_5 b_6 b_7 := fun I J => by simp only [TPf, rr_, Option.getD_some, hb_3, hb_4, hb_5, hb_6, hb_7]
  have wtqa0 : tqw_ L κ ow a0 b_3 b_4 b_5 b_6 b_7 := ⟨⟨hLa0, hb_3L, hb_4L, hb_5L, hb_6L, hb_7L⟩, ⟨(ro_o hka0 (by decide)), (ro_a hb_3k (by decide) hb_3o hka0 rfl), (ro_a hb_4k (by decide) hb_4o hka0 rfl), (ro_a hb_5k (by decide) hb_5o hka0 rfl), (ro_a hb_6k (by decide) hb_6o hka0 rfl), (ro_a hb_7k (by decide) hb_7o hka0 rfl)⟩⟩
  obtain ⟨s_8, hs_8⟩ : ∃ z, TPq I J a0 b_3 b_4 b_5 b_6 b_7 = z := ⟨_, rfl⟩
  obtain ⟨b_9, hb_9, hb_9L, hb_9k, hb_9n, hb_9o⟩ := shp_a (W9 b_2 hb_2L) hb_2k 0 15 7 rfl (by decide)
  obtain ⟨b_10, hb_10, hb_10L, hb_10k, hb_10n, hb_10o⟩ := shp_a (W9 b_2 hb_2L) hb_2k 2 14 7 rfl (by decide)
  obtain ⟨b_11, hb_11, hb_11L, hb_11k, hb_11n, hb_11o⟩ := shp_a (W9 b_2 hb_2L) hb_2k 3 15 6 rfl (by decide)
  have ebqx_0 : ∀ I J, TBf R I J (rr_ R x 0) = TBq I J b_2 b_9 b_10 b_11 := fun I J => by simp only [TBf, rr_, Option.getD_some, hb_9, hb_10, hb_11, hb_2]
  have dbqx_0 : ∀ I J, TBf R I J b_2 = TBq I J b_2 b_9 b_10 b_11 := fun I J => by simp only [TBf, rr_, Option.getD_some, hb_9, hb_10, hb_11, hb_2]
  have wbqx_0 : bqw_ L κ ow b_2 b_9 b_10 b_11 := ⟨⟨hb_2L, hb_9L, hb_10L, hb_11L⟩, ⟨(ro_o hb_2k (by decide)), (ro_a hb_9k (by decide) hb_9o hb_2k rfl), (ro_a hb_10k (by decide) hb_10o hb_2k rfl), (ro_a hb_11k (by decide) hb_11o hb_2k rfl)⟩⟩
  obtain ⟨s_12, hs_12⟩ : ∃ z, TBq I J b_2 b_9 b_10 b_11 = z := ⟨_, rfl⟩
  obtain ⟨b_13, hb_13, hb_13L, hb_13k, hb_13n, hb_13o⟩ := shp_a (W9 b_1 hb_1L) hb_1k 2 14 42 rfl (by decide)
  have ecqx_1 : ∀ I J, CPf R I J (rr_ R x 1) = CPq I J b_1 b_13 := fun I J => by simp only [CPf, rr_, Option.getD_some, hb_13, hb_1]
  have dcqx_1 : ∀ I J, CPf R I J b_1 = CPq I J b_1 b_13 := fun I J => by simp only [CPf, rr_, Option.getD_some, hb_13, hb_1]
  have wcqx_1 : cqw_ L κ ow b_1 b_13 := ⟨⟨hb_1L, hb_13L⟩, ⟨(ro_o hb_1k (by decide)), (ro_a hb_13k (by decide) hb_13o hb_1k rfl)⟩⟩
  obtain ⟨s_14, hs_14⟩ : ∃ z, CPq I J b_1 b_13 = z := ⟨_, rfl⟩
  have exqx : ∀ I J, XPf R I J x = XPq I J x := fun I J => by simp only [XPf, rr_, Option.getD_some]
  have wxqx : xqw_ L κ ow x := ⟨hLx, (ro_o hkx (by decide))⟩
  obtain ⟨s_15, hs_15⟩ : ∃ z, XPq I J x = z := ⟨_, rfl⟩
  refine g_lo (is := [0, 1]) (lo2 := [(0, .ref x), (1, .ref a0)]) rfl ?_
  have l_33 : ∀ (n_33 : Nat) (I_16 : Nat → Nat → Int32) (J_17 : Nat → Nat → Int64) (hU_18 : Iv L κ R ow I_16) (hF_19 : Fq L κ ow [107, 108, 109, 110, 111, 112, 805, 806, 807, 808, 902, 903, 1006, 1007, 1008, 1009, 1011, 1012, 16100, 16200, 16300, 16400, 16500, 16600, 58100, 58200, 58400, 70200, 70300] I I_16) (hG_20 : Fq L κ ow [1010, 58000, 58300, 70400] J J_17) (v_21 : Int32) (rv_21 : Rg 0 900 v_21) (hq_22 : rl v_21 ((TPq I_16 J_17 a0 b_3 b_4 b_5 b_6 b_7), (TBq I_16 J_17 b_2 b_9 b_10 b_11), (CPq I_16 J_17 b_1 b_13), (XPq I_16 J_17 x)) = rl 0 (fRfStart s_8 s_12 s_14 s_15)) (hm_23 : 900 < (v_21 : Int32).toInt + (n_33 : Int)), WG p l e { frames := 4, cells := 0, slots := 0, locals := 90 } s m ([.ref x, .ref a0] : List Value).toArray below meth c 3 0 0 (MQ below (Qi_ D cy L κ ln R (fun r I2 J2 => Iv L κ R ow I2 ∧ Fq L κ ow [107, 108, 109, 110, 111, 112, 805, 806, 807, 808, 902, 903, 1006, 1007, 1008, 1009, 1011, 1012, 16100, 16200, 16300, 16400, 16500, 16600, 58100, 58200, 58400, 70200, 70300] I I2 ∧ Fq L κ ow [1010, 58000, 58300, 70400] J J2 ∧ Rg 0 900 r ∧ ((r, TPf R I2 J2 a0, TBf R I2 J2 (rr_ R x 0), CPf R I2 J2 (rr_ R x 1), XPf R I2 J2 x) = fReadFrom (TPf R I J a0) (TBf R I J (rr_ R x 0)) (CPf R I J (rr_ R x 1)) (XPf R I J x)))) ([.ref x, .ref a0] : List Value).toArray s 0 0 (Al_ L)) D cy (Al_ L) s.heap L κ ln R I_16 J_17 33 [(0, .ref x), (1, .ref a0), (2, .int v_21)] [] := by
    intro n_33
    induction n_33 with
    | zero =>
      intro I_16 J_17 hU_18 hF_19 hG_20 v_21 rv_21 hq_22 hm_23
      exact ms_0 rv_21 hm_23
    | succ n_33 ih_33 =>
      intro I_16 J_17 hU_18 hF_19 hG_20 v_21 rv_21 hq_22 hm_23
      obtain ⟨s_24, hs_24⟩ : ∃ z, TPq I_16 J_17 a0 b_3 b_4 b_5 b_6 b_7 = z := ⟨_, rfl⟩
      obtain ⟨s_25, hs_25⟩ : ∃ z, TBq I_16 J_17 b_2 b_9 b_10 b_11 = z := ⟨_, rfl⟩
      obtain ⟨s_26, hs_26⟩ : ∃ z, CPq I_16 J_17 b_1 b_13 = z := ⟨_, rfl⟩
      obtain ⟨s_27, hs_27⟩ : ∃ z, XPq I_16 J_17 x = z := ⟨_, rfl⟩
      simp only [hs_24, hs_25, hs_26, hs_27] at hq_22
      have hQ_28 := hq_22.symm
      have u_29 := rl_eq (i := v_21) (s := (s_24, s_25, s_26, s_27)) (rv_21)
      refine g_iload_n C 2 dX9_readFrom_33 rfl rfl ?_
      refine g_sipush C (v := 900) dX9_readFrom_34 (by decide) ?_
      refine g_icmp_ge C (tgt := 63) dX9_readFrom_37 (by decide) (fun h_30 => ?_) (fun h_30 => ?_)
      · skip
        have r_31 := le_r (h_30) rc_900 rv_21
        refine g_iload_n C 2 dX9_readFrom_63 rfl rfl ?_
        exact g_zret (ty := .int) (r := v_21) B K rfl (rfl) ⟨hU_18, hF_19, hG_20, rg_w r_31 (by decide) (by decide), (by (try simp only [h_30, if_true, if_false, bqM_pnm, bqM_par, bqM_dnm, bqM_persons, bqM_dishes, bqM_law, bqM_dogs, TB_.w_pnm, TB_.w_par, TB_.w_dnm, TB_.w_persons, TB_.w_dishes, TB_.w_law, TB_.w_dogs, cqM_pcs, CP_.w_pcs, tqM_by_, tqM_wd, tqM_tk, tqM_pl, tqM_vl, tqM_len, tqM_n, tqM_at_, tqM_token, tqM_place, tqM_value, tqM_fault, tqM_fat, TP_.w_by_, TP_.w_wd, TP_.w_tk, TP_.w_pl, TP_.w_vl, TP_.w_len, TP_.w_n, TP_.w_at_, TP_.w_token, TP_.w_place, TP_.w_value, TP_.w_fault, TP_.w_fat, xqM_lt, xqM_dt, XP_.w_lt, XP_.w_dt] at hQ_28); (try simp only [h_30, if_true, if_false, bqM_pnm, bqM_par, bqM_dnm, bqM_persons, bqM_dishes, bqM_law, bqM_dogs, TB_.w_pnm, TB_.w_par, TB_.w_dnm, TB_.w_persons, TB_.w_dishes, TB_.w_law, TB_.w_dogs, cqM_pcs, CP_.w_pcs, tqM_by_, tqM_wd, tqM_tk, tqM_pl, tqM_vl, tqM_len, tqM_n, tqM_at_, tqM_token, tqM_place, tqM_value, tqM_fault, tqM_fat, TP_.w_by_, TP_.w_wd, TP_.w_tk, TP_.w_pl, TP_.w_vl, TP_.w_len, TP_.w_n, TP_.w_at_, TP_.w_token, TP_.w_place, TP_.w_value, TP_.w_fault, TP_.w_fat, xqM_lt, xqM_dt, XP_.w_lt, XP_.w_dt] at u_29); simp only [fReadFrom, etqa0, hs_24, hs_8, ebqx_0, dbqx_0, hs_25, hs_12, ecqx_1, dcqx_1, hs_26, hs_14, exqx, hs_27, hs_15, hQ_28, u_29, h_30, if_true, if_false, bqM_pnm, bqM_par, bqM_dnm, bqM_persons, bqM_dishes, bqM_law, bqM_dogs, TB_.w_pnm, TB_.w_par, TB_.w_dnm, TB_.w_persons, TB_.w_dishes, TB_.w_law, TB_.w_dogs, cqM_pcs, CP_.w_pcs, tqM_by_, tqM_wd, tqM_tk, tqM_pl, tqM_vl, tqM_len, tqM_n, tqM_at_, tqM_token, tqM_place, tqM_value, tqM_fault, tqM_fat, TP_.w_by_, TP_.w_wd, TP_.w_tk, TP_.w_pl, TP_.w_vl, TP_.w_len, TP_.w_n, TP_.w_at_, TP_.w_token, TP_.w_place, TP_.w_value, TP_.w_fault, TP_.w_fat, xqM_lt, xqM_dt, XP_.w_lt, XP_.w_dt])⟩ dX9_readFrom_64
      · skip
        have r_32 := lt_l (hi := 899) (nle h_30) rv_21 rc_900 (by decide)
        refine g_aload_n C 1 dX9_readFrom_40 rfl rfl ?_
        obtain ⟨x_33, hx_33, rx_33⟩ := ex_get (I := I_16) (a := a0) (j := 8) (lo := (-2147483648)) (hi := 2147483647) hU_18.1 hLa0 (ro_o hka0 (by decide)) rfl
        have f_34 : s_24.token = x_33 := (congrArg TP_.token hs_24).symm.trans hx_33
        refine g_getI C K hLa0 hka0 f_9_44 (v := x_33) hx_33 dX9_readFrom_41 ?_
        refine g_bipush C (v := 102) dX9_readFrom_44 (by decide) ?_
        refine g_icmp_eq C (tgt := 63) dX9_readFrom_46 (by decide) (fun h_35 => ?_) (fun h_35 => ?_)
        · skip
          have r_36 := (⟨(eq_rg (h_35) rc_102).1, (eq_rg (h_35) rc_102).2⟩ : Rg 102 102 x_33)
          refine g_iload_n C 2 dX9_readFrom_63 rfl rfl ?_
          exact g_zret (ty := .int) (r := v_21) B K rfl (rfl) ⟨hU_18, hF_19, hG_20, rg_w r_32 (by decide) (by decide), (by (try simp only [h_30, (nle h_30), hx_33, f_34, (eq_true h_35), if_true, if_false, bqM_pnm, bqM_par, bqM_dnm, bqM_persons, bqM_dishes, bqM_law, bqM_dogs, TB_.w_pnm, TB_.w_par, TB_.w_dnm, TB_.w_persons, TB_.w_dishes, TB_.w_law, TB_.w_dogs, cqM_pcs, CP_.w_pcs, tqM_by_, tqM_wd, tqM_tk, tqM_pl, tqM_vl, tqM_len, tqM_n, tqM_at_, tqM_token, tqM_place, tqM_value, tqM_fault, tqM_fat, TP_.w_by_, TP_.w_wd, TP_.w_tk, TP_.w_pl, TP_.w_vl, TP_.w_len, TP_.w_n, TP_.w_at_, TP_.w_token, TP_.w_place, TP_.w_value, TP_.w_fault, TP_.w_fat, xqM_lt, xqM_dt, XP_.w_lt, XP_.w_dt] at hQ_28); (try simp only [h_30, (nle h_30), hx_33, f_34, (eq_true h_35), if_true, if_false, bqM_pnm, bqM_par, bqM_dnm, bqM_persons, bqM_dishes, bqM_law, bqM_dogs, TB_.w_pnm, TB_.w_par, TB_.w_dnm, TB_.w_persons, TB_.w_dishes, TB_.w_law, TB_.w_dogs, cqM_pcs, CP_.w_pcs, tqM_by_, tqM_wd, tqM_tk, tqM_pl, tqM_vl, tqM_len, tqM_n, tqM_at_, tqM_token, tqM_place, tqM_value, tqM_fault, tqM_fat, TP_.w_by_, TP_.w_wd, TP_.w_tk, TP_.w_pl, TP_.w_vl, TP_.w_len, TP_.w_n, TP_.w_at_, TP_.w_token, TP_.w_place, TP_.w_value, TP_.w_fault, TP_.w_fat, xqM_lt, xqM_dt, XP_.w_lt, XP_.w_dt] at u_29); simp only [fReadFrom, etqa0, hs_24, hs_8, ebqx_0, dbqx_0, hs_25, hs_12, ecqx_1, dcqx_1, hs_26, hs_14, exqx, hs_27, hs_15, hQ_28, u_29, h_30, (nle h_30), hx_33, f_34, (eq_true h_35), if_true, if_false, bqM_pnm, bqM_par, bqM_dnm, bqM_persons, bqM_dishes, bqM_law, bqM_dogs, TB_.w_pnm, TB_.w_par, TB_.w_dnm, TB_.w_persons, TB_.w_dishes, TB_.w_law, TB_.w_dogs, cqM_pcs, CP_.w_pcs, tqM_by_, tqM_wd, tqM_tk, tqM_pl, tqM_vl, tqM_len, tqM_n, tqM_at_, tqM_token, tqM_place, tqM_value, tqM_fault, tqM_fat, TP_.w_by_, TP_.w_wd, TP_.w_tk, TP_.w_pl, TP_.w_vl, TP_.w_len, TP_.w_n, TP_.w_at_, TP_.w_token, TP_.w_place, TP_.w_value, TP_.w_fault, TP_.w_fat, xqM_lt, xqM_dt, XP_.w_lt, XP_.w_dt])⟩ dX9_readFrom_64
        · skip
          have n_37 : ¬ x_33 = 102 := h_35
          refine g_aload_n C 0 dX9_readFrom_49 rfl rfl ?_
          refine g_aload_n C 1 dX9_readFrom_50 rfl rfl ?_
          refine g_callVI C K (c_X9_readLine W9 hLx hkx hLa0 hka0  hU_18) hLx hkx (by decide) rfl v_9_48 rfl ⟨rfl, rfl⟩ ⟨Nat.le_of_ble_eq_true rfl, Nat.le_of_ble_eq_true rfl⟩ (Nat.le_of_ble_eq_true rfl) ⟨Nat.le_of_ble_eq_true rfl, Nat.le_of_ble_eq_true rfl⟩ dX9_readFrom_51 rfl (st := []) (fun x_38 I_39 J_40 h_41 => ?_)
          obtain ⟨hUI_39, hFI_39, hGJ_40, rx_38, fx_38⟩ := h_41
          have hF_42 := fq_tr hF_19 hFI_39 (by decide)
          have hG_43 := fq_tr hG_20 hGJ_40 (by decide)
          obtain ⟨s_45, hs_45⟩ : ∃ z, TPq I_39 J_40 a0 b_3 b_4 b_5 b_6 b_7 = z := ⟨_, rfl⟩
          obtain ⟨s_46, hs_46⟩ : ∃ z, TBq I_39 J_40 b_2 b_9 b_10 b_11 = z := ⟨_, rfl⟩
          obtain ⟨s_47, hs_47⟩ : ∃ z, CPq I_39 J_40 b_1 b_13 = z := ⟨_, rfl⟩
          obtain ⟨s_48, hs_48⟩ : ∃ z, XPq I_39 J_40 x = z := ⟨_, rfl⟩
          have c_44 : fReadLine (s_24) (s_25) (s_26) (s_27) = (x_38, s_45, s_46, s_47, s_48) := by have q := fx_38; simp only [etqa0, ebqx_0, dbqx_0, ecqx_1, dcqx_1, exqx, hs_24, hs_25, hs_26, hs_27, hs_45, hs_46, hs_47, hs_48] at q; exact q.symm
          refine g_if_eq C (tgt := 63) dX9_readFrom_54 (by decide) (fun h_49 => ?_) (fun h_49 => ?_)
          · skip
            have r_50 := (⟨(rx_38).1, (eq_rg (h_49) rc_0).2⟩ : Rg 0 0 x_38)
            refine g_iload_n C 2 dX9_readFrom_63 rfl rfl ?_
            exact g_zret (ty := .int) (r := v_21) B K rfl (rfl) ⟨hUI_39, hF_42, hG_43, rg_w r_32 (by decide) (by decide), (by (try simp only [h_30, (nle h_30), hx_33, f_34, h_35, c_44, (eq_true h_49), if_true, if_false, bqM_pnm, bqM_par, bqM_dnm, bqM_persons, bqM_dishes, bqM_law, bqM_dogs, TB_.w_pnm, TB_.w_par, TB_.w_dnm, TB_.w_persons, TB_.w_dishes, TB_.w_law, TB_.w_dogs, cqM_pcs, CP_.w_pcs, tqM_by_, tqM_wd, tqM_tk, tqM_pl, tqM_vl, tqM_len, tqM_n, tqM_at_, tqM_token, tqM_place, tqM_value, tqM_fault, tqM_fat, TP_.w_by_, TP_.w_wd, TP_.w_tk, TP_.w_pl, TP_.w_vl, TP_.w_len, TP_.w_n, TP_.w_at_, TP_.w_token, TP_.w_place, TP_.w_value, TP_.w_fault, TP_.w_fat, xqM_lt, xqM_dt, XP_.w_lt, XP_.w_dt] at hQ_28); (try simp only [h_30, (nle h_30), hx_33, f_34, h_35, c_44, (eq_true h_49), if_true, if_false, bqM_pnm, bqM_par, bqM_dnm, bqM_persons, bqM_dishes, bqM_law, bqM_dogs, TB_.w_pnm, TB_.w_par, TB_.w_dnm, TB_.w_persons, TB_.w_dishes, TB_.w_law, TB_.w_dogs, cqM_pcs, CP_.w_pcs, tqM_by_, tqM_wd, tqM_tk, tqM_pl, tqM_vl, tqM_len, tqM_n, tqM_at_, tqM_token, tqM_place, tqM_value, tqM_fault, tqM_fat, TP_.w_by_, TP_.w_wd, TP_.w_tk, TP_.w_pl, TP_.w_vl, TP_.w_len, TP_.w_n, TP_.w_at_, TP_.w_token, TP_.w_place, TP_.w_value, TP_.w_fault, TP_.w_fat, xqM_lt, xqM_dt, XP_.w_lt, XP_.w_dt] at u_29); simp only [fReadFrom, etqa0, hs_45, hs_8, ebqx_0, dbqx_0, hs_46, hs_12, ecqx_1, dcqx_1, hs_47, hs_14, exqx, hs_48, hs_15, hQ_28, u_29, h_30, (nle h_30), hx_33, f_34, h_35, c_44, (eq_true h_49), if_true, if_false, bqM_pnm, bqM_par, bqM_dnm, bqM_persons, bqM_dishes, bqM_law, bqM_dogs, TB_.w_pnm, TB_.w_par, TB_.w_dnm, TB_.w_persons, TB_.w_dishes, TB_.w_law, TB_.w_dogs, cqM_pcs, CP_.w_pcs, tqM_by_, tqM_wd, tqM_tk, tqM_pl, tqM_vl, tqM_len, tqM_n, tqM_at_, tqM_token, tqM_place, tqM_value, tqM_fault, tqM_fat, TP_.w_by_, TP_.w_wd, TP_.w_tk, TP_.w_pl, TP_.w_vl, TP_.w_len, TP_.w_n, TP_.w_at_, TP_.w_token, TP_.w_place, TP_.w_value, TP_.w_fault, TP_.w_fat, xqM_lt, xqM_dt, XP_.w_lt, XP_.w_dt])⟩ dX9_readFrom_64
          · skip
            have n_51 : ¬ x_38 = 0 := h_49
            have r_52 := ne_lo (lo := 1) n_51 rx_38 rc_0 rfl (by decide)
            obtain ⟨x_53, hx_53, rx_53, tx_53⟩ := ex_add (y := 1) 1 900 r_32 rc_1 (by decide) (by decide) (by decide) (by decide)
            refine g_iinc C dX9_readFrom_57 (k := 2) (v := x_53) rfl hx_53 (by decide) (lo2 := [(2, .int x_53), (0, .ref x), (1, .ref a0)]) rfl ?_
            refine g_goto C (tgt := 33) dX9_readFrom_60 (by decide) ?_
            refine g_lo (is := [1, 2, 0]) (lo2 := [(0, .ref x), (1, .ref a0), (2, .int x_53)]) rfl ?_
            exact ih_33 I_39 J_40 hUI_39 hF_42 hG_43 x_53 (rg_w rx_53 (by decide) (by decide)) (by (try simp only [h_30, (nle h_30), hx_33, f_34, h_35, c_44, h_49, hx_53, if_true, if_false, bqM_pnm, bqM_par, bqM_dnm, bqM_persons, bqM_dishes, bqM_law, bqM_dogs, TB_.w_pnm, TB_.w_par, TB_.w_dnm, TB_.w_persons, TB_.w_dishes, TB_.w_law, TB_.w_dogs, cqM_pcs, CP_.w_pcs, tqM_by_, tqM_wd, tqM_tk, tqM_pl, tqM_vl, tqM_len, tqM_n, tqM_at_, tqM_token, tqM_place, tqM_value, tqM_fault, tqM_fat, TP_.w_by_, TP_.w_wd, TP_.w_tk, TP_.w_pl, TP_.w_vl, TP_.w_len, TP_.w_n, TP_.w_at_, TP_.w_token, TP_.w_place, TP_.w_value, TP_.w_fault, TP_.w_fat, xqM_lt, xqM_dt, XP_.w_lt, XP_.w_dt] at hQ_28); (try simp only [h_30, (nle h_30), hx_33, f_34, h_35, c_44, h_49, hx_53, if_true, if_false, bqM_pnm, bqM_par, bqM_dnm, bqM_persons, bqM_dishes, bqM_law, bqM_dogs, TB_.w_pnm, TB_.w_par, TB_.w_dnm, TB_.w_persons, TB_.w_dishes, TB_.w_law, TB_.w_dogs, cqM_pcs, CP_.w_pcs, tqM_by_, tqM_wd, tqM_tk, tqM_pl, tqM_vl, tqM_len, tqM_n, tqM_at_, tqM_token, tqM_place, tqM_value, tqM_fault, tqM_fat, TP_.w_by_, TP_.w_wd, TP_.w_tk, TP_.w_pl, TP_.w_vl, TP_.w_len, TP_.w_n, TP_.w_at_, TP_.w_token, TP_.w_place, TP_.w_value, TP_.w_fault, TP_.w_fat, xqM_lt, xqM_dt, XP_.w_lt, XP_.w_dt] at u_29); simp only [etqa0, hs_45, hs_8, ebqx_0, dbqx_0, hs_46, hs_12, ecqx_1, dcqx_1, hs_47, hs_14, exqx, hs_48, hs_15, hQ_28, u_29, h_30, (nle h_30), hx_33, f_34, h_35, c_44, h_49, hx_53, if_true, if_false, bqM_pnm, bqM_par, bqM_dnm, bqM_persons, bqM_dishes, bqM_law, bqM_dogs, TB_.w_pnm, TB_.w_par, TB_.w_dnm, TB_.w_persons, TB_.w_dishes, TB_.w_law, TB_.w_dogs, cqM_pcs, CP_.w_pcs, tqM_by_, tqM_wd, tqM_tk, tqM_pl, tqM_vl, tqM_len, tqM_n, tqM_at_, tqM_token, tqM_place, tqM_value, tqM_fault, tqM_fat, TP_.w_by_, TP_.w_wd, TP_.w_tk, TP_.w_pl, TP_.w_vl, TP_.w_len, TP_.w_n, TP_.w_at_, TP_.w_token, TP_.w_place, TP_.w_value, TP_.w_fault, TP_.w_fat, xqM_lt, xqM_dt, XP_.w_lt, XP_.w_dt]) (ms_1 hm_23 (ti_k tx_53 rc_1) (by decide))
  refine g_aload_n C 0 dX9_readFrom_0 rfl rfl ?_
  refine g_getR C K hLx hkx f_9_12 hb_2 dX9_readFrom_1 ?_
  refine g_callVV C K (c_X8_forget W9 hb_2L hb_2k   hU) hb_2L hb_2k (by decide) rfl v_9_34 rfl ⟨rfl, rfl⟩ ⟨Nat.le_of_ble_eq_true rfl, Nat.le_of_ble_eq_true rfl⟩ (Nat.le_of_ble_eq_true rfl) ⟨Nat.le_of_ble_eq_true rfl, Nat.le_of_ble_eq_true rfl⟩ dX9_readFrom_4 rfl (st := []) (fun I_55 J_56 h_57 => ?_)
  obtain ⟨hUI_55, hFI_55, hGJ_56, fx_54⟩ := h_57
  have hF_58 := fq_tr hF hFI_55 (by decide)
  have hG_59 := fq_tr hG hGJ_56 (by decide)
  obtain ⟨s_61, hs_61⟩ : ∃ z, TBq I_55 J_56 b_2 b_9 b_10 b_11 = z := ⟨_, rfl⟩
  have c_60 : fForgetB (s_12) = s_61 := by have q := fx_54; simp only [ebqx_0, dbqx_0, hs_12, hs_61] at q; exact q.symm
  have hs_62 : TPq I_55 J_56 a0 b_3 b_4 b_5 b_6 b_7 = s_8 := (tq_fq wtqa0 hFI_55 hGJ_56 (by decide) (by decide)).trans hs_8
  have hs_63 : CPq I_55 J_56 b_1 b_13 = s_14 := (cq_fq wcqx_1 hFI_55 hGJ_56 (by decide) (by decide)).trans hs_14
  have hs_64 : XPq I_55 J_56 x = s_15 := (xq_fq wxqx hFI_55 hGJ_56 (by decide) (by decide)).trans hs_15
  refine g_aload_n C 0 dX9_readFrom_7 rfl rfl ?_
  refine g_getR C K hLx hkx f_9_23 hb_1 dX9_readFrom_8 ?_
  refine g_callVV C K (c_X1_forget W9 hb_1L hb_1k   hUI_55) hb_1L hb_1k (by decide) rfl v_9_37 rfl ⟨rfl, rfl⟩ ⟨Nat.le_of_ble_eq_true rfl, Nat.le_of_ble_eq_true rfl⟩ (Nat.le_of_ble_eq_true rfl) ⟨Nat.le_of_ble_eq_true rfl, Nat.le_of_ble_eq_true rfl⟩ dX9_readFrom_11 rfl (st := []) (fun I_66 J_67 h_68 => ?_)
  obtain ⟨hUI_66, hFI_66, hGJ_67, fx_65⟩ := h_68
  have hF_69 := fq_tr hF_58 hFI_66 (by decide)
  have hG_70 := fq_tr hG_59 hGJ_67 (by decide)
  obtain ⟨s_72, hs_72⟩ : ∃ z, CPq I_66 J_67 b_1 b_13 = z := ⟨_, rfl⟩
  have c_71 : fForgetC (s_14) = s_72 := by have q := fx_65; simp only [ecqx_1, dcqx_1, hs_63, hs_72] at q; exact q.symm
  have hs_73 : TPq I_66 J_67 a0 b_3 b_4 b_5 b_6 b_7 = s_8 := (tq_fq wtqa0 hFI_66 hGJ_67 (by decide) (by decide)).trans hs_62
  have hs_74 : TBq I_66 J_67 b_2 b_9 b_10 b_11 = s_61 := (bq_fq wbqx_0 hFI_66 hGJ_67 (by decide) (by decide)).trans hs_61
  have hs_75 : XPq I_66 J_67 x = s_15 := (xq_fq wxqx hFI_66 hGJ_67 (by decide) (by decide)).trans hs_64
  refine g_aload_n C 0 dX9_readFrom_14 rfl rfl ?_
  refine g_iconst C (v := 0) dX9_readFrom_15 (by decide) ?_
  refine h_putZ C K hLx hkx f_9_27 p_9_2 (rg_bool (rg_w rc_0 (by decide) (by decide))) dX9_readFrom_16 (fun I_76 hI_76 => ?_)
  have hU_77 := iv_put W9 hUI_66 hI_76 (ro_o hkx (by decide)) (lo := 0) (hi := 1) (rfl) (rg_w rc_0 (by decide) (by decide)) rfl
  have hF_78 := fq_puto hF_69 hI_76 hkx (by decide) (by decide)
  have hs_79 : TPq I_76 J_67 a0 b_3 b_4 b_5 b_6 b_7 = s_8 := by rw [hI_76]; exact (tq_oI wtqa0 (ro_o hkx (by decide)) (by decide)).trans hs_73
  have hs_80 : TBq I_76 J_67 b_2 b_9 b_10 b_11 = s_61 := by rw [hI_76]; exact (bq_oI wbqx_0 (ro_o hkx (by decide)) (by decide)).trans hs_74
  have hs_81 : CPq I_76 J_67 b_1 b_13 = s_72 := by rw [hI_76]; exact (cq_oI wcqx_1 (ro_o hkx (by decide)) (by decide)).trans hs_72
  have hs_82 : XPq I_76 J_67 x = (XP_.w_lt s_15 (0)) := by rw [hI_76]; exact ((xq_lt wxqx).trans (congrArg (fun z : XP_ => XP_.w_lt z (0)) hs_75)).trans rfl
  refine g_aload_n C 0 dX9_readFrom_19 rfl rfl ?_
  refine g_iconst C (v := 0) dX9_readFrom_20 (by decide) ?_
  refine h_putZ C K hLx hkx f_9_31 p_9_3 (rg_bool (rg_w rc_0 (by decide) (by decide))) dX9_readFrom_21 (fun I_83 hI_83 => ?_)
  have hU_84 := iv_put W9 hU_77 hI_83 (ro_o hkx (by decide)) (lo := 0) (hi := 1) (rfl) (rg_w rc_0 (by decide) (by decide)) rfl
  have hF_85 := fq_puto hF_78 hI_83 hkx (by decide) (by decide)
  have hs_86 : TPq I_83 J_67 a0 b_3 b_4 b_5 b_6 b_7 = s_8 := by rw [hI_83]; exact (tq_oI wtqa0 (ro_o hkx (by decide)) (by decide)).trans hs_79
  have hs_87 : TBq I_83 J_67 b_2 b_9 b_10 b_11 = s_61 := by rw [hI_83]; exact (bq_oI wbqx_0 (ro_o hkx (by decide)) (by decide)).trans hs_80
  have hs_88 : CPq I_83 J_67 b_1 b_13 = s_72 := by rw [hI_83]; exact (cq_oI wcqx_1 (ro_o hkx (by decide)) (by decide)).trans hs_81
  have hs_89 : XPq I_83 J_67 x = (XP_.w_dt (XP_.w_lt s_15 (0)) (0)) := by rw [hI_83]; exact ((xq_dt wxqx).trans (congrArg (fun z : XP_ => XP_.w_dt z (0)) hs_82)).trans rfl
  refine g_aload_n C 1 dX9_readFrom_24 rfl rfl ?_
  refine g_sipush C (v := 900) dX9_readFrom_25 (by decide) ?_
  refine g_callVV C K (c_X10_begin W9 hLa0 hka0 900 (rg_w rc_900 (by decide) (by decide)) hU_84) hLa0 hka0 (by decide) rfl v_9_38 rfl ⟨rfl, rfl⟩ ⟨Nat.le_of_ble_eq_true rfl, Nat.le_of_ble_eq_true rfl⟩ (Nat.le_of_ble_eq_true rfl) ⟨Nat.le_of_ble_eq_true rfl, Nat.le_of_ble_eq_true rfl⟩ dX9_readFrom_28 rfl (st := []) (fun I_91 J_92 h_93 => ?_)
  obtain ⟨hUI_91, hFI_91, hGJ_92, fx_90⟩ := h_93
  have hF_94 := fq_tr hF_85 hFI_91 (by decide)
  have hG_95 := fq_tr hG_70 hGJ_92 (by decide)
  obtain ⟨s_97, hs_97⟩ : ∃ z, TPq I_91 J_92 a0 b_3 b_4 b_5 b_6 b_7 = z := ⟨_, rfl⟩
  have c_96 : fBegin (900) (s_8) = s_97 := by have q := fx_90; simp only [etqa0, hs_86, hs_97] at q; exact q.symm
  have hs_98 : TBq I_91 J_92 b_2 b_9 b_10 b_11 = s_61 := (bq_fq wbqx_0 hFI_91 hGJ_92 (by decide) (by decide)).trans hs_87
  have hs_99 : CPq I_91 J_92 b_1 b_13 = s_72 := (cq_fq wcqx_1 hFI_91 hGJ_92 (by decide) (by decide)).trans hs_88
  have hs_100 : XPq I_91 J_92 x = (XP_.w_dt (XP_.w_lt s_15 (0)) (0)) := (xq_fq wxqx hFI_91 hGJ_92 (by decide) (by decide)).trans hs_89
  refine g_iconst C (v := 0) dX9_readFrom_31 (by decide) ?_
  refine g_istore_n C dX9_readFrom_32 rfl (by decide) (lo2 := [(2, .int 0), (0, .ref x), (1, .ref a0)]) rfl ?_
  refine g_lo (is := [1, 2, 0]) (lo2 := [(0, .ref x), (1, .ref a0), (2, .int 0)]) rfl ?_
  exact l_33 901 I_91 J_92 hUI_91 hF_94 hG_95 0 (rg_w rc_0 (by decide) (by decide)) (by simp only [fReadFrom, fRfStart, etqa0, hs_97, hs_8, ebqx_0, dbqx_0, hs_98, hs_12, ecqx_1, dcqx_1, hs_99, hs_14, exqx, hs_100, hs_15, c_60, c_71, c_96, if_true, if_false, bqM_pnm, bqM_par, bqM_dnm, bqM_persons, bqM_dishes, bqM_law, bqM_dogs, TB_.w_pnm, TB_.w_par, TB_.w_dnm, TB_.w_persons, TB_.w_dishes, TB_.w_law, TB_.w_dogs, cqM_pcs, CP_.w_pcs, tqM_by_, tqM_wd, tqM_tk, tqM_pl, tqM_vl, tqM_len, tqM_n, tqM_at_, tqM_token, tqM_place, tqM_value, tqM_fault, tqM_fat, TP_.w_by_, TP_.w_wd, TP_.w_tk, TP_.w_pl, TP_.w_vl, TP_.w_len, TP_.w_n, TP_.w_at_, TP_.w_token, TP_.w_place, TP_.w_value, TP_.w_fault, TP_.w_fat, xqM_lt, xqM_dt, XP_.w_lt, XP_.w_dt]) (ms_s (a := 0) (b := 900) (N := 901) (rg_w rc_0 (by decide) (by decide)) (by decide))
set_option maxRecDepth 100000 in
set_option maxHeartbeats 8000000 in
theorem c_X11_table {l : Launch} {D : va_G} {cy : Nat → ClassId} {L : List Nat} {κ ln : Nat → Nat} {R : Nat → Nat → Option Nat} {I : Nat → Nat → Int32} {J : Nat → Nat → Int64} {ow : Nat → Nat × Nat} (W9 : ∀ a ∈ L, Shp L κ ln R ow a) {x : Nat} (hLx : x ∈ L) (hkx : κ x = 11) (hU : Iv L κ R ow I) : CtI l yX11_table cX11_table 2 (some .int) { frames := 5, cells := 0, slots := 0, locals := 112 } D cy L κ ln R I J [.ref x] (fun r I2 J2 => Iv L κ R ow I2 ∧ Fq L κ ow [107, 108, 109, 110, 111, 112, 501, 704, 705, 805, 806, 807, 808, 902, 903, 1005, 1006, 1007, 1008, 1009, 1011, 1012, 16100, 16200, 16300, 16400, 16500, 16600, 58100, 58200, 58400, 70200, 70300] I I2 ∧ Fq L κ ow [1010, 58000, 58300, 70400] J J2 ∧ Rg (-2147483648) 2147483647 r ∧ (r = fTable (TPf R I J (rr_ R x 0)) (TBf R I J (rr_ R (rr_ R x 5) 0)) (CPf R I J (rr_ R (rr_ R x 5) 1)) (XPf R I J (rr_ R x 5)))) := by
  refine CtI.of (by decide +kernel) (Nat.le_of_ble_eq_true rfl) ?_
  intro p e s m below meth c B K
  have C := B.1
  have hF : Fq L κ ow [107, 108, 109, 110, 111, 112, 501, 704, 705, 805, 806, 807, 808, 902, 903, 1005, 1006, 1007, 1008, 1009, 1011, 1012, 16100, 16200, 16300, 16400, 16500, 16600, 58100, 58200, 58400, 70200, 70300] I I := fq_rf
  have hG : Fq L κ ow [1010, 58000, 58300, 70400] J J := fq_rf
  obtain ⟨b_1, hb_1, hb_1L, hb_1k⟩ := shp_o (W9 x hLx) hkx 4 5 rfl (by decide)
  obtain ⟨b_2, hb_2, hb_2L, hb_2k⟩ := shp_o (W9 x hLx) hkx 2 1 rfl (by decide)
  obtain ⟨b_3, hb_3, hb_3L, hb_3k⟩ := shp_o (W9 x hLx) hkx 5 9 rfl (by decide)
  obtain ⟨b_4, hb_4, hb_4L, hb_4k⟩ := shp_o (W9 x hLx) hkx 7 7 rfl (by decide)
  obtain ⟨b_5, hb_5, hb_5L, hb_5k⟩ := shp_o (W9 x hLx) hkx 1 8 rfl (by decide)
  obtain ⟨b_6, hb_6, hb_6L, hb_6k⟩ := shp_o (W9 x hLx) hkx 0 10 rfl (by decide)
  obtain ⟨b_7, hb_7, hb_7L, hb_7k⟩ := shp_o (W9 b_3 hb_3L) hb_3k 0 8 rfl (by decide)
  obtain ⟨b_8, hb_8, hb_8L, hb_8k⟩ := shp_o (W9 b_3 hb_3L) hb_3k 1 1 rfl (by decide)
  obtain ⟨b_9, hb_9, hb_9L, hb_9k, hb_9n, hb_9o⟩ := shp_a (W9 b_6 hb_6L) hb_6k 0 13 940 rfl (by decide)
  obtain ⟨b_10, hb_10, hb_10L, hb_10k, hb_10n, hb_10o⟩ := shp_a (W9 b_6 hb_6L) hb_6k 1 15 28 rfl (by decide)
  obtain ⟨b_11, hb_11, hb_11L, hb_11k, hb_11n, hb_11o⟩ := shp_a (W9 b_6 hb_6L) hb_6k 2 14 901 rfl (by decide)
  obtain ⟨b_12, hb_12, hb_12L, hb_12k, hb_12n, hb_12o⟩ := shp_a (W9 b_6 hb_6L) hb_6k 3 14 901 rfl (by decide)
  obtain ⟨b_13, hb_13, hb_13L, hb_13k, hb_13n, hb_13o⟩ := shp_a (W9 b_6 hb_6L) hb_6k 4 15 901 rfl (by decide)
  have etqx_0 : ∀ I J, TPf R I J (rr_ R x 0) = TPq I J b_6 b_9 b_10 b_11 b_12 b_13 := fun I J => by simp only [TPf, rr_, Option.getD_some, hb_9, hb_10, hb_11, hb_12, hb_13, hb_6]
  have dtqx_0 : ∀ I J, TPf R I J b_6 = TPq I J b_6 b_9 b_10 b_11 b_12 b_13 := fun I J => by simp only [TPf, rr_, Option.getD_some, hb_9, hb_10, hb_11, hb_12, hb_13, hb_6]
  have wtqx_0 : tqw_ L κ ow b_6 b_9 b_10 b_11 b_12 b_13 := ⟨⟨hb_6L, hb_9L, hb_10L, hb_11L, hb_12L, hb_13L⟩, ⟨(ro_o hb_6k (by decide)), (ro_a hb_9k (by decide) hb_9o hb_6k rfl), (ro_a hb_10k (by decide) hb_10o hb_6k rfl), (ro_a hb_11k (by decide) hb_11o hb_6k rfl), (ro_a hb_12k (by decide) hb_12o hb_6k rfl), (ro_a hb_13k (by decide) hb_13o hb_6k rfl)⟩⟩
  obtain ⟨s_14, hs_14⟩ : ∃ z, TPq I J b_6 b_9 b_10 b_11 b_12 b_13 = z := ⟨_, rfl⟩
  obtain ⟨b_15, hb_15, hb_15L, hb_15k, hb_15n, hb_15o⟩ := shp_a (W9 b_7 hb_7L) hb_7k 0 15 7 rfl (by decide)
  obtain ⟨b_16, hb_16, hb_16L, hb_16k, hb_16n, hb_16o⟩ := shp_a (W9 b_7 hb_7L) hb_7k 2 14 7 rfl (by decide)
  obtain ⟨b_17, hb_17, hb_17L, hb_17k, hb_17n, hb_17o⟩ := shp_a (W9 b_7 hb_7L) hb_7k 3 15 6 rfl (by decide)
  have ebqx_5_0 : ∀ I J, TBf R I J (rr_ R (rr_ R x 5) 0) = TBq I J b_7 b_15 b_16 b_17 := fun I J => by simp only [TBf, rr_, Option.getD_some, hb_15, hb_16, hb_17, hb_3, hb_7]
  have dbqx_5_0 : ∀ I J, TBf R I J b_7 = TBq I J b_7 b_15 b_16 b_17 := fun I J => by simp only [TBf, rr_, Option.getD_some, hb_15, hb_16, hb_17, hb_3, hb_7]
  have wbqx_5_0 : bqw_ L κ ow b_7 b_15 b_16 b_17 := ⟨⟨hb_7L, hb_15L, hb_16L, hb_17L⟩, ⟨(ro_o hb_7k (by decide)), (ro_a hb_15k (by decide) hb_15o hb_7k rfl), (ro_a hb_16k (by decide) hb_16o hb_7k rfl), (ro_a hb_17k (by decide) hb_17o hb_7k rfl)⟩⟩
  obtain ⟨s_18, hs_18⟩ : ∃ z, TBq I J b_7 b_15 b_16 b_17 = z := ⟨_, rfl⟩
  obtain ⟨b_19, hb_19, hb_19L, hb_19k, hb_19n, hb_19o⟩ := shp_a (W9 b_8 hb_8L) hb_8k 2 14 42 rfl (by decide)
  have ecqx_5_1 : ∀ I J, CPf R I J (rr_ R (rr_ R x 5) 1) = CPq I J b_8 b_19 := fun I J => by simp only [CPf, rr_, Option.getD_some, hb_19, hb_3, hb_8]
  have dcqx_5_1 : ∀ I J, CPf R I J b_8 = CPq I J b_8 b_19 := fun I J => by simp only [CPf, rr_, Option.getD_some, hb_19, hb_3, hb_8]
  have wcqx_5_1 : cqw_ L κ ow b_8 b_19 := ⟨⟨hb_8L, hb_19L⟩, ⟨(ro_o hb_8k (by decide)), (ro_a hb_19k (by decide) hb_19o hb_8k rfl)⟩⟩
  obtain ⟨s_20, hs_20⟩ : ∃ z, CPq I J b_8 b_19 = z := ⟨_, rfl⟩
  have exqx_5 : ∀ I J, XPf R I J (rr_ R x 5) = XPq I J b_3 := fun I J => by simp only [XPf, rr_, Option.getD_some, hb_3]
  have dxqx_5 : ∀ I J, XPf R I J b_3 = XPq I J b_3 := fun I J => by simp only [XPf, rr_, Option.getD_some, hb_3]
  have wxqx_5 : xqw_ L κ ow b_3 := ⟨hb_3L, (ro_o hb_3k (by decide))⟩
  obtain ⟨s_21, hs_21⟩ : ∃ z, XPq I J b_3 = z := ⟨_, rfl⟩
  refine g_lo (is := [0]) (lo2 := [(0, .ref x)]) rfl ?_
  refine g_aload_n C 0 dX11_table_0 rfl rfl ?_
  refine g_getR C K hLx hkx f_11_45 hb_3 dX11_table_1 ?_
  refine g_aload_n C 0 dX11_table_4 rfl rfl ?_
  refine g_getR C K hLx hkx f_11_10 hb_6 dX11_table_5 ?_
  refine g_callVI C K (c_X9_readFrom W9 hb_3L hb_3k hb_6L hb_6k  hU) hb_3L hb_3k (by decide) rfl v_11_109 rfl ⟨rfl, rfl⟩ ⟨Nat.le_of_ble_eq_true rfl, Nat.le_of_ble_eq_true rfl⟩ (Nat.le_of_ble_eq_true rfl) ⟨Nat.le_of_ble_eq_true rfl, Nat.le_of_ble_eq_true rfl⟩ dX11_table_8 rfl (st := []) (fun x_22 I_23 J_24 h_25 => ?_)
  obtain ⟨hUI_23, hFI_23, hGJ_24, rx_22, fx_22⟩ := h_25
  have hF_26 := fq_tr hF hFI_23 (by decide)
  have hG_27 := fq_tr hG hGJ_24 (by decide)
  have d_28 : ∀ I J, TBf R I J (rr_ R b_3 0) = TBq I J b_7 b_15 b_16 b_17 := fun I J => by simp only [TBf, rr_, Option.getD_some, hb_7, hb_15, hb_16, hb_17]
  have d_29 : ∀ I J, CPf R I J (rr_ R b_3 1) = CPq I J b_8 b_19 := fun I J => by simp only [CPf, rr_, Option.getD_some, hb_8, hb_19]
  obtain ⟨s_31, hs_31⟩ : ∃ z, TPq I_23 J_24 b_6 b_9 b_10 b_11 b_12 b_13 = z := ⟨_, rfl⟩
  obtain ⟨s_32, hs_32⟩ : ∃ z, TBq I_23 J_24 b_7 b_15 b_16 b_17 = z := ⟨_, rfl⟩
  obtain ⟨s_33, hs_33⟩ : ∃ z, CPq I_23 J_24 b_8 b_19 = z := ⟨_, rfl⟩
  obtain ⟨s_34, hs_34⟩ : ∃ z, XPq I_23 J_24 b_3 = z := ⟨_, rfl⟩
  have c_30 : fReadFrom (s_14) (s_18) (s_20) (s_21) = (x_22, s_31, s_32, s_33, s_34) := by have q := fx_22; simp only [etqx_0, dtqx_0, ebqx_5_0, dbqx_5_0, ecqx_5_1, dcqx_5_1, exqx_5, dxqx_5, d_28, d_29, hs_14, hs_18, hs_20, hs_21, hs_31, hs_32, hs_33, hs_34] at q; exact q.symm
  refine g_istore_n C dX11_table_11 rfl (by decide) (lo2 := [(1, .int x_22), (0, .ref x)]) rfl ?_
  refine g_aload_n C 1 dX11_table_12 rfl rfl ?_
  refine g_getR C K hLx hkx f_11_10 hb_6 dX11_table_13 ?_
  refine g_iconst C (v := 0) dX11_table_16 (by decide) ?_
  refine h_putI C K hb_6L hb_6k f_11_102 p_10_5 dX11_table_17 (fun I_35 hI_35 => ?_)
  have hU_36 := iv_put W9 hUI_23 hI_35 (ro_o hb_6k (by decide)) (lo := 0) (hi := 940) (rfl) (rg_w rc_0 (by decide) (by decide)) rfl
  have hF_37 := fq_puto hF_26 hI_35 hb_6k (by decide) (by decide)
  have hs_38 : TPq I_35 J_24 b_6 b_9 b_10 b_11 b_12 b_13 = (TP_.w_len s_31 (0)) := by rw [hI_35]; exact ((tq_len wtqx_0).trans (congrArg (fun z : TP_ => TP_.w_len z (0)) hs_31)).trans rfl
  have hs_39 : TBq I_35 J_24 b_7 b_15 b_16 b_17 = s_32 := by rw [hI_35]; exact (bq_oI wbqx_5_0 (ro_o hb_6k (by decide)) (by decide)).trans hs_32
  have hs_40 : CPq I_35 J_24 b_8 b_19 = s_33 := by rw [hI_35]; exact (cq_oI wcqx_5_1 (ro_o hb_6k (by decide)) (by decide)).trans hs_33
  have hs_41 : XPq I_35 J_24 b_3 = s_34 := by rw [hI_35]; exact (xq_oI wxqx_5 (ro_o hb_6k (by decide)) (by decide)).trans hs_34
  refine g_aload_n C 1 dX11_table_20 rfl rfl ?_
  refine g_getR C K hLx hkx f_11_10 hb_6 dX11_table_21 ?_
  obtain ⟨x_42, hx_42, rx_42⟩ := ex_get (I := I_35) (a := b_6) (j := 11) (lo := (-2147483648)) (hi := 2147483647) hU_36.1 hb_6L (ro_o hb_6k (by decide)) rfl
  have f_43 : s_31.fault = x_42 := (congrArg TP_.fault hs_38).symm.trans hx_42
  refine g_getI C K hb_6L hb_6k f_11_113 (v := x_42) hx_42 dX11_table_24 ?_
  refine g_if_eq C (tgt := 40) dX11_table_27 (by decide) (fun h_44 => ?_) (fun h_44 => ?_)
  · skip
    have r_45 := (⟨(eq_rg (h_44) rc_0).1, (eq_rg (h_44) rc_0).2⟩ : Rg 0 0 x_42)
    refine g_aload_n C 1 dX11_table_40 rfl rfl ?_
    refine g_getR C K hLx hkx f_11_19 hb_5 dX11_table_41 ?_
    refine g_aload_n C 1 dX11_table_44 rfl rfl ?_
    refine g_getR C K hLx hkx f_11_45 hb_3 dX11_table_45 ?_
    refine g_getR C K hb_3L hb_3k f_11_119 hb_7 dX11_table_48 ?_
    refine g_callVV C K (c_X8_become W9 hb_5L hb_5k hb_7L hb_7k  hU_36) hb_5L hb_5k (by decide) rfl v_11_120 rfl ⟨rfl, rfl⟩ ⟨Nat.le_of_ble_eq_true rfl, Nat.le_of_ble_eq_true rfl⟩ (Nat.le_of_ble_eq_true rfl) ⟨Nat.le_of_ble_eq_true rfl, Nat.le_of_ble_eq_true rfl⟩ dX11_table_51 rfl (st := []) (fun I_47 J_48 h_49 => ?_)
    obtain ⟨hUI_47, hFI_47, hGJ_48⟩ := h_49
    have hF_50 := fq_tr hF_37 hFI_47 (by decide)
    have hG_51 := fq_tr hG_27 hGJ_48 (by decide)
    have hs_52 : TPq I_47 J_48 b_6 b_9 b_10 b_11 b_12 b_13 = (TP_.w_len s_31 (0)) := (tq_fq wtqx_0 hFI_47 hGJ_48 (by decide) (by decide)).trans hs_38
    have hs_53 : CPq I_47 J_48 b_8 b_19 = s_33 := (cq_fq wcqx_5_1 hFI_47 hGJ_48 (by decide) (by decide)).trans hs_40
    have hs_54 : XPq I_47 J_48 b_3 = s_34 := (xq_fq wxqx_5 hFI_47 hGJ_48 (by decide) (by decide)).trans hs_41
    refine g_aload_n C 1 dX11_table_54 rfl rfl ?_
    refine g_getR C K hLx hkx f_11_28 hb_2 dX11_table_55 ?_
    refine g_aload_n C 1 dX11_table_58 rfl rfl ?_
    refine g_getR C K hLx hkx f_11_45 hb_3 dX11_table_59 ?_
    refine g_getR C K hb_3L hb_3k f_11_123 hb_8 dX11_table_62 ?_
    refine g_callVV C K (c_X1_become W9 hb_2L hb_2k hb_8L hb_8k  hUI_47) hb_2L hb_2k (by decide) rfl v_11_126 rfl ⟨rfl, rfl⟩ ⟨Nat.le_of_ble_eq_true rfl, Nat.le_of_ble_eq_true rfl⟩ (Nat.le_of_ble_eq_true rfl) ⟨Nat.le_of_ble_eq_true rfl, Nat.le_of_ble_eq_true rfl⟩ dX11_table_65 rfl (st := []) (fun I_56 J_57 h_58 => ?_)
    obtain ⟨hUI_56, hFI_56, hGJ_57⟩ := h_58
    have hF_59 := fq_tr hF_50 hFI_56 (by decide)
    have hG_60 := fq_tr hG_51 hGJ_57 (by decide)
    have hs_61 : TPq I_56 J_57 b_6 b_9 b_10 b_11 b_12 b_13 = (TP_.w_len s_31 (0)) := (tq_fq wtqx_0 hFI_56 hGJ_57 (by decide) (by decide)).trans hs_52
    have hs_62 : XPq I_56 J_57 b_3 = s_34 := (xq_fq wxqx_5 hFI_56 hGJ_57 (by decide) (by decide)).trans hs_54
    refine g_aload_n C 1 dX11_table_68 rfl rfl ?_
    refine g_getR C K hLx hkx f_11_59 hb_4 dX11_table_69 ?_
    refine g_callVV C K (c_X7_forget W9 hb_4L hb_4k   hUI_56) hb_4L hb_4k (by decide) rfl v_11_129 rfl ⟨rfl, rfl⟩ ⟨Nat.le_of_ble_eq_true rfl, Nat.le_of_ble_eq_true rfl⟩ (Nat.le_of_ble_eq_true rfl) ⟨Nat.le_of_ble_eq_true rfl, Nat.le_of_ble_eq_true rfl⟩ dX11_table_72 rfl (st := []) (fun I_64 J_65 h_66 => ?_)
    obtain ⟨hUI_64, hFI_64, hGJ_65⟩ := h_66
    have hF_67 := fq_tr hF_59 hFI_64 (by decide)
    have hG_68 := fq_tr hG_60 hGJ_65 (by decide)
    have hs_69 : TPq I_64 J_65 b_6 b_9 b_10 b_11 b_12 b_13 = (TP_.w_len s_31 (0)) := (tq_fq wtqx_0 hFI_64 hGJ_65 (by decide) (by decide)).trans hs_61
    have hs_70 : XPq I_64 J_65 b_3 = s_34 := (xq_fq wxqx_5 hFI_64 hGJ_65 (by decide) (by decide)).trans hs_62
    refine g_aload_n C 1 dX11_table_75 rfl rfl ?_
    refine g_getR C K hLx hkx f_11_38 hb_1 dX11_table_76 ?_
    refine g_callVV C K (c_X5_forget W9 hb_1L hb_1k   hUI_64) hb_1L hb_1k (by decide) rfl v_11_132 rfl ⟨rfl, rfl⟩ ⟨Nat.le_of_ble_eq_true rfl, Nat.le_of_ble_eq_true rfl⟩ (Nat.le_of_ble_eq_true rfl) ⟨Nat.le_of_ble_eq_true rfl, Nat.le_of_ble_eq_true rfl⟩ dX11_table_79 rfl (st := []) (fun I_72 J_73 h_74 => ?_)
    obtain ⟨hUI_72, hFI_72, hGJ_73⟩ := h_74
    have hF_75 := fq_tr hF_67 hFI_72 (by decide)
    have hG_76 := fq_tr hG_68 hGJ_73 (by decide)
    have hs_77 : TPq I_72 J_73 b_6 b_9 b_10 b_11 b_12 b_13 = (TP_.w_len s_31 (0)) := (tq_fq wtqx_0 hFI_72 hGJ_73 (by decide) (by decide)).trans hs_69
    have hs_78 : XPq I_72 J_73 b_3 = s_34 := (xq_fq wxqx_5 hFI_72 hGJ_73 (by decide) (by decide)).trans hs_70
    refine g_iload_n C 0 dX11_table_82 rfl rfl ?_
    exact g_zret (ty := .int) (r := x_22) B K rfl (rfl) ⟨hUI_72, hF_75, hG_76, rg_all _, (by simp only [fTable, etqx_0, dtqx_0, hs_77, hs_14, ebqx_5_0, dbqx_5_0, hs_18, ecqx_5_1, dcqx_5_1, hs_20, exqx_5, dxqx_5, hs_78, hs_21, c_30, hx_42, f_43, (eq_true h_44), if_true, if_false, bqM_pnm, bqM_par, bqM_dnm, bqM_persons, bqM_dishes, bqM_law, bqM_dogs, TB_.w_pnm, TB_.w_par, TB_.w_dnm, TB_.w_persons, TB_.w_dishes, TB_.w_law, TB_.w_dogs, cqM_pcs, CP_.w_pcs, tqM_by_, tqM_wd, tqM_tk, tqM_pl, tqM_vl, tqM_len, tqM_n, tqM_at_, tqM_token, tqM_place, tqM_value, tqM_fault, tqM_fat, TP_.w_by_, TP_.w_wd, TP_.w_tk, TP_.w_pl, TP_.w_vl, TP_.w_len, TP_.w_n, TP_.w_at_, TP_.w_token, TP_.w_place, TP_.w_value, TP_.w_fault, TP_.w_fat, xqM_lt, xqM_dt, XP_.w_lt, XP_.w_dt])⟩ dX11_table_83
  · skip
    have n_79 : ¬ x_42 = 0 := h_44
    refine g_iconst C (v := (-1)) dX11_table_30 (by decide) ?_
    refine g_aload_n C 1 dX11_table_31 rfl rfl ?_
    refine g_getR C K hLx hkx f_11_10 hb_6 dX11_table_32 ?_
    obtain ⟨x_80, hx_80, rx_80⟩ := ex_get (I := I_35) (a := b_6) (j := 12) (lo := (-2147483648)) (hi := 2147483647) hU_36.1 hb_6L (ro_o hb_6k (by decide)) rfl
    have f_81 : s_31.fat = x_80 := (congrArg TP_.fat hs_38).symm.trans hx_80
    refine g_getI C K hb_6L hb_6k f_11_116 (v := x_80) hx_80 dX11_table_35 ?_
    obtain ⟨x_82, hx_82, rx_82, tx_82⟩ := ex_sub (-2147483648) 2147483647 rc_m1 rx_80 (by decide) (by decide) (by decide) (by decide)
    refine g_isub C (v := x_82) dX11_table_38 hx_82 ?_
    exact g_zret (ty := .int) (r := x_82) B K rfl (rfl) ⟨hU_36, hF_37, hG_27, rx_82, (by simp only [fTable, etqx_0, dtqx_0, hs_38, hs_14, ebqx_5_0, dbqx_5_0, hs_39, hs_18, ecqx_5_1, dcqx_5_1, hs_40, hs_20, exqx_5, dxqx_5, hs_41, hs_21, c_30, hx_42, f_43, h_44, hx_80, f_81, hx_82, if_true, if_false, bqM_pnm, bqM_par, bqM_dnm, bqM_persons, bqM_dishes, bqM_law, bqM_dogs, TB_.w_pnm, TB_.w_par, TB_.w_dnm, TB_.w_persons, TB_.w_dishes, TB_.w_law, TB_.w_dogs, cqM_pcs, CP_.w_pcs, tqM_by_, tqM_wd, tqM_tk, tqM_pl, tqM_vl, tqM_len, tqM_n, tqM_at_, tqM_token, tqM_place, tqM_value, tqM_fault, tqM_fat, TP_.w_by_, TP_.w_wd, TP_.w_tk, TP_.w_pl, TP_.w_vl, TP_.w_len, TP_.w_n, TP_.w_at_, TP_.w_token, TP_.w_place, TP_.w_value, TP_.w_fault, TP_.w_fat, xqM_lt, xqM_dt, XP_.w_lt, XP_.w_dt])⟩ dX11_table_39
set_option maxRecDepth 100000 in
set_option maxHeartbeats 8000000 in
theorem c_X11_fault {l : Launch} {D : va_G} {cy : Nat → ClassId} {L : List Nat} {κ ln : Nat → Nat} {R : Nat → Nat → Option Nat} {I : Nat → Nat → Int32} {J : Nat → Nat → Int64} {ow : Nat → Nat × Nat} (W9 : ∀ a ∈ L, Shp L κ ln R ow a) {x : Nat} (hLx : x ∈ L) (hkx : κ x = 11) (hU : Iv L κ R ow I) : CtI l yX11_fault cX11_fault 1 (some .int) { frames := 0, cells := 0, slots := 0, locals := 0 } D cy L κ ln R I J [.ref x] (fun r I2 J2 => I = I2 ∧ J = J2 ∧ Rg (-2147483648) 2147483647 r) := by
  refine CtI.of (by decide +kernel) (Nat.le_of_ble_eq_true rfl) ?_
  intro p e s m below meth c B K
  have C := B.1
  obtain ⟨b_1, hb_1, hb_1L, hb_1k⟩ := shp_o (W9 x hLx) hkx 0 10 rfl (by decide)
  refine g_lo (is := [0]) (lo2 := [(0, .ref x)]) rfl ?_
  refine g_aload_n C 0 dX11_fault_0 rfl rfl ?_
  refine g_getR C K hLx hkx f_11_10 hb_1 dX11_fault_1 ?_
  obtain ⟨x_2, hx_2, rx_2⟩ := ex_get (I := I) (a := b_1) (j := 11) (lo := (-2147483648)) (hi := 2147483647) hU.1 hb_1L (ro_o hb_1k (by decide)) rfl
  refine g_getI C K hb_1L hb_1k f_11_113 (v := x_2) hx_2 dX11_fault_4 ?_
  exact g_zret (ty := .int) (r := x_2) B K rfl (rfl) ⟨rfl, rfl, rx_2⟩ dX11_fault_7
set_option maxRecDepth 100000 in
set_option maxHeartbeats 8000000 in
theorem c_X8_hasDish {l : Launch} {D : va_G} {cy : Nat → ClassId} {L : List Nat} {κ ln : Nat → Nat} {R : Nat → Nat → Option Nat} {I : Nat → Nat → Int32} {J : Nat → Nat → Int64} {ow : Nat → Nat × Nat} (W9 : ∀ a ∈ L, Shp L κ ln R ow a) {x : Nat} (hLx : x ∈ L) (hkx : κ x = 8) (a0 : Int32) (hU : Iv L κ R ow I) : CtI l yX8_hasDish cX8_hasDish 2 (some .boolean) { frames := 0, cells := 0, slots := 0, locals := 0 } D cy L κ ln R I J [.ref x, .int a0] (fun r I2 J2 => I = I2 ∧ J = J2 ∧ Rg 0 1 r ∧ (¬ r = 0 → Rg 0 5 a0)) := by
  refine CtI.of (by decide +kernel) (Nat.le_of_ble_eq_true rfl) ?_
  intro p e s m below meth c B K
  have C := B.1
  refine g_lo (is := [0, 1]) (lo2 := [(0, .ref x), (1, .int a0)]) rfl ?_
  refine g_iload_n C 1 dX8_hasDish_0 rfl rfl ?_
  refine g_if_lt C (tgt := 16) dX8_hasDish_1 (by decide) (fun h_1 => ?_) (fun h_1 => ?_)
  · skip
    have r_2 := lt_l (hi := (-1)) (h_1) (rg_all a0) rc_0 (by decide)
    refine g_iconst C (v := 0) dX8_hasDish_16 (by decide) ?_
    exact g_zret (ty := .boolean) (r := 0) B K rfl (rfl) ⟨rfl, rfl, rg_w rc_0 (by decide) (by decide), (fun q => absurd rfl q)⟩ dX8_hasDish_17
  · skip
    have r_3 := le_r (nlt h_1) rc_0 (rg_all a0)
    refine g_iload_n C 1 dX8_hasDish_4 rfl rfl ?_
    refine g_aload_n C 0 dX8_hasDish_5 rfl rfl ?_
    obtain ⟨x_4, hx_4, rx_4⟩ := ex_get (I := I) (a := x) (j := 6) (lo := 0) (hi := 6) hU.1 hLx (ro_o hkx (by decide)) rfl
    refine g_getI C K hLx hkx f_8_32 (v := x_4) hx_4 dX8_hasDish_6 ?_
    refine g_icmp_ge C (tgt := 16) dX8_hasDish_9 (by decide) (fun h_5 => ?_) (fun h_5 => ?_)
    · skip
      refine g_iconst C (v := 0) dX8_hasDish_16 (by decide) ?_
      exact g_zret (ty := .boolean) (r := 0) B K rfl (rfl) ⟨rfl, rfl, rg_w rc_0 (by decide) (by decide), (fun q => absurd rfl q)⟩ dX8_hasDish_17
    · skip
      have r_6 := lt_l (hi := 5) (nle h_5) r_3 rx_4 (by decide)
      have r_7 := lt_r (lo := 1) (nle h_5) r_3 rx_4 (by decide)
      refine g_iconst C (v := 1) dX8_hasDish_12 (by decide) ?_
      refine g_goto C (tgt := 17) dX8_hasDish_13 (by decide) ?_
      exact g_zret (ty := .boolean) (r := 1) B K rfl (rfl) ⟨rfl, rfl, rg_w rc_1 (by decide) (by decide), (fun _ => r_6)⟩ dX8_hasDish_17
set_option maxRecDepth 100000 in
set_option maxHeartbeats 8000000 in
theorem c_X8_hasPerson {l : Launch} {D : va_G} {cy : Nat → ClassId} {L : List Nat} {κ ln : Nat → Nat} {R : Nat → Nat → Option Nat} {I : Nat → Nat → Int32} {J : Nat → Nat → Int64} {ow : Nat → Nat × Nat} (W9 : ∀ a ∈ L, Shp L κ ln R ow a) {x : Nat} (hLx : x ∈ L) (hkx : κ x = 8) (a0 : Int32) (hU : Iv L κ R ow I) : CtI l yX8_hasPerson cX8_hasPerson 2 (some .boolean) { frames := 0, cells := 0, slots := 0, locals := 0 } D cy L κ ln R I J [.ref x, .int a0] (fun r I2 J2 => I = I2 ∧ J = J2 ∧ Rg 0 1 r ∧ (¬ r = 0 → Rg 0 6 a0)) := by
  refine CtI.of (by decide +kernel) (Nat.le_of_ble_eq_true rfl) ?_
  intro p e s m below meth c B K
  have C := B.1
  refine g_lo (is := [0, 1]) (lo2 := [(0, .ref x), (1, .int a0)]) rfl ?_
  refine g_iload_n C 1 dX8_hasPerson_0 rfl rfl ?_
  refine g_if_lt C (tgt := 16) dX8_hasPerson_1 (by decide) (fun h_1 => ?_) (fun h_1 => ?_)
  · skip
    have r_2 := lt_l (hi := (-1)) (h_1) (rg_all a0) rc_0 (by decide)
    refine g_iconst C (v := 0) dX8_hasPerson_16 (by decide) ?_
    exact g_zret (ty := .boolean) (r := 0) B K rfl (rfl) ⟨rfl, rfl, rg_w rc_0 (by decide) (by decide), (fun q => absurd rfl q)⟩ dX8_hasPerson_17
  · skip
    have r_3 := le_r (nlt h_1) rc_0 (rg_all a0)
    refine g_iload_n C 1 dX8_hasPerson_4 rfl rfl ?_
    refine g_aload_n C 0 dX8_hasPerson_5 rfl rfl ?_
    obtain ⟨x_4, hx_4, rx_4⟩ := ex_get (I := I) (a := x) (j := 5) (lo := 0) (hi := 7) hU.1 hLx (ro_o hkx (by decide)) rfl
    refine g_getI C K hLx hkx f_8_28 (v := x_4) hx_4 dX8_hasPerson_6 ?_
    refine g_icmp_ge C (tgt := 16) dX8_hasPerson_9 (by decide) (fun h_5 => ?_) (fun h_5 => ?_)
    · skip
      refine g_iconst C (v := 0) dX8_hasPerson_16 (by decide) ?_
      exact g_zret (ty := .boolean) (r := 0) B K rfl (rfl) ⟨rfl, rfl, rg_w rc_0 (by decide) (by decide), (fun q => absurd rfl q)⟩ dX8_hasPerson_17
    · skip
      have r_6 := lt_l (hi := 6) (nle h_5) r_3 rx_4 (by decide)
      have r_7 := lt_r (lo := 1) (nle h_5) r_3 rx_4 (by decide)
      refine g_iconst C (v := 1) dX8_hasPerson_12 (by decide) ?_
      refine g_goto C (tgt := 17) dX8_hasPerson_13 (by decide) ?_
      exact g_zret (ty := .boolean) (r := 1) B K rfl (rfl) ⟨rfl, rfl, rg_w rc_1 (by decide) (by decide), (fun _ => r_6)⟩ dX8_hasPerson_17
set_option maxRecDepth 100000 in
set_option maxHeartbeats 8000000 in
theorem c_X11_plate {l : Launch} {D : va_G} {cy : Nat → ClassId} {L : List Nat} {κ ln : Nat → Nat} {R : Nat → Nat → Option Nat} {I : Nat → Nat → Int32} {J : Nat → Nat → Int64} {ow : Nat → Nat × Nat} (W9 : ∀ a ∈ L, Shp L κ ln R ow a) {x : Nat} (hLx : x ∈ L) (hkx : κ x = 11) (a0 : Int32) (a1 : Int32) (hU : Iv L κ R ow I) : CtI l yX11_plate cX11_plate 3 (some .int) { frames := 1, cells := 0, slots := 0, locals := 22 } D cy L κ ln R I J [.ref x, .int a0, .int a1] (fun r I2 J2 => I = I2 ∧ J = J2 ∧ Rg (-2147483648) 2147483647 r) := by
  refine CtI.of (by decide +kernel) (Nat.le_of_ble_eq_true rfl) ?_
  intro p e s m below meth c B K
  have C := B.1
  obtain ⟨b_1, hb_1, hb_1L, hb_1k⟩ := shp_o (W9 x hLx) hkx 1 8 rfl (by decide)
  obtain ⟨b_2, hb_2, hb_2L, hb_2k⟩ := shp_o (W9 x hLx) hkx 2 1 rfl (by decide)
  refine g_lo (is := [0, 1, 2]) (lo2 := [(0, .ref x), (1, .int a0), (2, .int a1)]) rfl ?_
  refine g_aload_n C 0 dX11_plate_0 rfl rfl ?_
  refine g_getR C K hLx hkx f_11_19 hb_1 dX11_plate_1 ?_
  refine g_iload_n C 1 dX11_plate_4 rfl rfl ?_
  refine g_callVI C K (c_X8_hasPerson W9 hb_1L hb_1k a0  hU) hb_1L hb_1k (by decide) rfl v_11_133 rfl ⟨rfl, rfl⟩ ⟨Nat.le_of_ble_eq_true rfl, Nat.le_of_ble_eq_true rfl⟩ (Nat.le_of_ble_eq_true rfl) ⟨Nat.le_of_ble_eq_true rfl, Nat.le_of_ble_eq_true rfl⟩ dX11_plate_5 rfl (st := []) (fun x_3 I_4 J_5 h_6 => ?_)
  obtain ⟨rfl, rfl, rx_3, ex_3⟩ := h_6
  refine g_if_eq C (tgt := 22) dX11_plate_8 (by decide) (fun h_7 => ?_) (fun h_7 => ?_)
  · skip
    have r_8 := (⟨(rx_3).1, (eq_rg (h_7) rc_0).2⟩ : Rg 0 0 x_3)
    refine g_iconst C (v := (-1)) dX11_plate_22 (by decide) ?_
    exact g_zret (ty := .int) (r := (-1)) B K rfl (rfl) ⟨rfl, rfl, rg_all _⟩ dX11_plate_23
  · skip
    have n_9 : ¬ x_3 = 0 := h_7
    have r_10 := ne_lo (lo := 1) n_9 rx_3 rc_0 rfl (by decide)
    have r_11 := rg_i (rg_all a0) ((ex_3) n_9) (lo := 0) (hi := 6) (by decide) (by decide)
    refine g_aload_n C 0 dX11_plate_11 rfl rfl ?_
    refine g_getR C K hLx hkx f_11_19 hb_1 dX11_plate_12 ?_
    refine g_iload_n C 2 dX11_plate_15 rfl rfl ?_
    refine g_callVI C K (c_X8_hasDish W9 hb_1L hb_1k a1  hU) hb_1L hb_1k (by decide) rfl v_11_175 rfl ⟨rfl, rfl⟩ ⟨Nat.le_of_ble_eq_true rfl, Nat.le_of_ble_eq_true rfl⟩ (Nat.le_of_ble_eq_true rfl) ⟨Nat.le_of_ble_eq_true rfl, Nat.le_of_ble_eq_true rfl⟩ dX11_plate_16 rfl (st := []) (fun x_12 I_13 J_14 h_15 => ?_)
    obtain ⟨rfl, rfl, rx_12, ex_12⟩ := h_15
    refine g_if_ne C (tgt := 24) dX11_plate_19 (by decide) (fun h_16 => ?_) (fun h_16 => ?_)
    · skip
      have n_17 : ¬ x_12 = 0 := h_16
      have r_18 := ne_lo (lo := 1) n_17 rx_12 rc_0 rfl (by decide)
      have r_19 := rg_i (rg_all a1) ((ex_12) n_17) (lo := 0) (hi := 5) (by decide) (by decide)
      refine g_aload_n C 0 dX11_plate_24 rfl rfl ?_
      refine g_getR C K hLx hkx f_11_28 hb_2 dX11_plate_25 ?_
      refine g_iload_n C 1 dX11_plate_28 rfl rfl ?_
      refine g_iload_n C 2 dX11_plate_29 rfl rfl ?_
      refine g_callVI C K (c_X1_onPlate W9 hb_2L hb_2k a0 a1 (r_11) (r_19) hU) hb_2L hb_2k (by decide) rfl v_11_178 rfl ⟨rfl, rfl⟩ ⟨Nat.le_of_ble_eq_true rfl, Nat.le_of_ble_eq_true rfl⟩ (Nat.le_of_ble_eq_true rfl) ⟨Nat.le_of_ble_eq_true rfl, Nat.le_of_ble_eq_true rfl⟩ dX11_plate_30 rfl (st := []) (fun x_20 I_21 J_22 h_23 => ?_)
      obtain ⟨rfl, rfl, rx_20, fx_20⟩ := h_23
      exact g_zret (ty := .int) (r := x_20) B K rfl (rfl) ⟨rfl, rfl, rx_20⟩ dX11_plate_33
    · skip
      have r_24 := (⟨(rx_12).1, (eq_rg (h_16) rc_0).2⟩ : Rg 0 0 x_12)
      refine g_iconst C (v := (-1)) dX11_plate_22 (by decide) ?_
      exact g_zret (ty := .int) (r := (-1)) B K rfl (rfl) ⟨rfl, rfl, rg_all _⟩ dX11_plate_23
set_option maxRecDepth 100000 in
set_option maxHeartbeats 8000000 in
theorem c_X1_onPlatesOf {l : Launch} {D : va_G} {cy : Nat → ClassId} {L : List Nat} {κ ln : Nat → Nat} {R : Nat → Nat → Option Nat} {I : Nat → Nat → Int32} {J : Nat → Nat → Int64} {ow : Nat → Nat × Nat} (W9 : ∀ a ∈ L, Shp L κ ln R ow a) {x : Nat} (hLx : x ∈ L) (hkx : κ x = 1) (a0 : Int32) (a1 : Int32) (ra0 : Rg 0 127 a0) (ra1 : Rg 0 5 a1) (hU : Iv L κ R ow I) : CtI l yX1_onPlatesOf cX1_onPlatesOf 5 (some .int) { frames := 1, cells := 0, slots := 0, locals := 22 } D cy L κ ln R I J [.ref x, .int a0, .int a1] (fun r I2 J2 => I = I2 ∧ J = J2 ∧ Rg (-2147483648) 2147483647 r) := by
  refine CtI.of (by decide +kernel) (Nat.le_of_ble_eq_true rfl) ?_
  intro p e s m below meth c B K
  have C := B.1
  obtain ⟨b_1, hb_1, hb_1L, hb_1k⟩ := shp_o (W9 x hLx) hkx 0 8 rfl (by decide)
  refine g_lo (is := [0, 1, 2]) (lo2 := [(0, .ref x), (1, .int a0), (2, .int a1)]) rfl ?_
  have l_5 : ∀ (n_5 : Nat) (v_2 : Int32) (rv_2 : Rg 0 127 v_2) (v_3 : Int32) (rv_3 : Rg 0 5 v_3) (v_4 : Int32) (v_5 : Int32) (rv_5 : Rg 0 7 v_5) (hm_6 : 7 < (v_5 : Int32).toInt + (n_5 : Int)), WG p l e { frames := 1, cells := 0, slots := 0, locals := 22 } s m ([.ref x, .int a0, .int a1] : List Value).toArray below meth c 5 0 0 (MQ below (Qi_ D cy L κ ln R (fun r I2 J2 => I = I2 ∧ J = J2 ∧ Rg (-2147483648) 2147483647 r)) ([.ref x, .int a0, .int a1] : List Value).toArray s 0 0 (Al_ L)) D cy (Al_ L) s.heap L κ ln R I J 5 [(0, .ref x), (1, .int v_2), (2, .int v_3), (3, .int v_4), (4, .int v_5)] [] := by
    intro n_5
    induction n_5 with
    | zero =>
      intro v_2 rv_2 v_3 rv_3 v_4 v_5 rv_5 hm_6
      exact ms_0 rv_5 hm_6
    | succ n_5 ih_5 =>
      intro v_2 rv_2 v_3 rv_3 v_4 v_5 rv_5 hm_6
      have j_36 : ∀ (v_7 : Int32) (rv_7 : Rg 0 127 v_7) (v_8 : Int32) (rv_8 : Rg 0 5 v_8) (v_9 : Int32) (v_10 : Int32) (rv_10 : Rg 0 6 v_10) (v_11 : Int32) (rv_11 : Rg 1 7 v_11) (q_12 : I b_1 5 = v_11) (hm_13 : 7 < (v_10 : Int32).toInt + ((n_5 + 1 : Nat) : Int)), WG p l e { frames := 1, cells := 0, slots := 0, locals := 22 } s m ([.ref x, .int a0, .int a1] : List Value).toArray below meth c 5 0 0 (MQ below (Qi_ D cy L κ ln R (fun r I2 J2 => I = I2 ∧ J = J2 ∧ Rg (-2147483648) 2147483647 r)) ([.ref x, .int a0, .int a1] : List Value).toArray s 0 0 (Al_ L)) D cy (Al_ L) s.heap L κ ln R I J 36 [(0, .ref x), (1, .int v_7), (2, .int v_8), (3, .int v_9), (4, .int v_10)] [] := by
        intro v_7 rv_7 v_8 rv_8 v_9 v_10 rv_10 v_11 rv_11 q_12 hm_13
        obtain ⟨x_14, hx_14, rx_14, tx_14⟩ := ex_add (y := 1) 1 7 rv_10 rc_1 (by decide) (by decide) (by decide) (by decide)
        refine g_iinc C dX1_onPlatesOf_36 (k := 4) (v := x_14) rfl hx_14 (by decide) (lo2 := [(4, .int x_14), (0, .ref x), (1, .int v_7), (2, .int v_8), (3, .int v_9)]) rfl ?_
        refine g_goto C (tgt := 5) dX1_onPlatesOf_39 (by decide) ?_
        refine g_lo (is := [1, 2, 3, 4, 0]) (lo2 := [(0, .ref x), (1, .int v_7), (2, .int v_8), (3, .int v_9), (4, .int x_14)]) rfl ?_
        exact ih_5 v_7 (rv_7) v_8 (rv_8) v_9 x_14 (rg_w rx_14 (by decide) (by decide)) (ms_1 hm_13 (ti_k tx_14 rc_1) (by decide))
      refine g_iload C 4 dX1_onPlatesOf_5 rfl ?_
      refine g_aload_n C 0 dX1_onPlatesOf_7 rfl rfl ?_
      refine g_getR C K hLx hkx f_1_52 hb_1 dX1_onPlatesOf_8 ?_
      obtain ⟨x_15, hx_15, rx_15⟩ := ex_get (I := I) (a := b_1) (j := 5) (lo := 0) (hi := 7) hU.1 hb_1L (ro_o hb_1k (by decide)) rfl
      refine g_getI C K hb_1L hb_1k f_1_68 (v := x_15) hx_15 dX1_onPlatesOf_11 ?_
      refine g_icmp_ge C (tgt := 42) dX1_onPlatesOf_14 (by decide) (fun h_16 => ?_) (fun h_16 => ?_)
      · skip
        refine g_iload_n C 3 dX1_onPlatesOf_42 rfl rfl ?_
        exact g_zret (ty := .int) (r := v_4) B K rfl (rfl) ⟨rfl, rfl, (rg_all v_4)⟩ dX1_onPlatesOf_43
      · skip
        have r_17 := lt_l (hi := 6) (nle h_16) rv_5 rx_15 (by decide)
        have r_18 := lt_r (lo := 1) (nle h_16) rv_5 rx_15 (by decide)
        refine g_iload_n C 1 dX1_onPlatesOf_17 rfl rfl ?_
        refine g_iload C 4 dX1_onPlatesOf_18 rfl ?_
        obtain ⟨x_19, hx_19, rx_19⟩ := ex_shr (x := v_2) (y := v_5) (b := 127) (rv_2)
        refine g_ishr C (v := x_19) dX1_onPlatesOf_20 hx_19 ?_
        refine g_iconst C (v := 1) dX1_onPlatesOf_21 (by decide) ?_
        obtain ⟨x_20, hx_20, rx_20⟩ := ex_andr (x := x_19) (y := 1) (b := 1) (rg_w rc_1 (by decide) (by decide))
        refine g_iand C (v := x_20) dX1_onPlatesOf_22 hx_20 ?_
        refine g_if_eq C (tgt := 36) dX1_onPlatesOf_23 (by decide) (fun h_21 => ?_) (fun h_21 => ?_)
        · skip
          have r_22 := (⟨(rx_20).1, (eq_rg (h_21) rc_0).2⟩ : Rg 0 0 x_20)
          refine g_lo (is := [0, 1, 2, 3, 4]) (lo2 := [(0, .ref x), (1, .int v_2), (2, .int v_3), (3, .int v_4), (4, .int v_5)]) rfl ?_
          exact j_36 v_2 (rv_2) v_3 (rv_3) v_4 v_5 (r_17) x_15 (r_18) hx_15 hm_6
        · skip
          have n_23 : ¬ x_20 = 0 := h_21
          have r_24 := ne_lo (lo := 1) n_23 rx_20 rc_0 rfl (by decide)
          refine g_iload_n C 3 dX1_onPlatesOf_26 rfl rfl ?_
          refine g_aload_n C 0 dX1_onPlatesOf_27 rfl rfl ?_
          refine g_iload C 4 dX1_onPlatesOf_28 rfl ?_
          refine g_iload_n C 2 dX1_onPlatesOf_30 rfl rfl ?_
          refine g_callVI C K (c_X1_onPlate W9 hLx hkx v_5 v_3 (r_17) (rv_3) hU) hLx hkx (by decide) rfl v_1_71 rfl ⟨rfl, rfl⟩ ⟨Nat.le_of_ble_eq_true rfl, Nat.le_of_ble_eq_true rfl⟩ (Nat.le_of_ble_eq_true rfl) ⟨Nat.le_of_ble_eq_true rfl, Nat.le_of_ble_eq_true rfl⟩ dX1_onPlatesOf_31 rfl (st := [.int v_4]) (fun x_25 I_26 J_27 h_28 => ?_)
          obtain ⟨rfl, rfl, rx_25, fx_25⟩ := h_28
          obtain ⟨x_29, hx_29, rx_29⟩ := ex_any (z0 := v_4 + x_25)
          refine g_iadd C (v := x_29) dX1_onPlatesOf_34 hx_29 ?_
          refine g_istore_n C dX1_onPlatesOf_35 rfl (by decide) (lo2 := [(3, .int x_29), (0, .ref x), (1, .int v_2), (2, .int v_3), (4, .int v_5)]) rfl ?_
          refine g_lo (is := [1, 2, 3, 0, 4]) (lo2 := [(0, .ref x), (1, .int v_2), (2, .int v_3), (3, .int x_29), (4, .int v_5)]) rfl ?_
          exact j_36 v_2 (rv_2) v_3 (rv_3) x_29 v_5 (r_17) x_15 (r_18) hx_15 hm_6
  refine g_iconst C (v := 0) dX1_onPlatesOf_0 (by decide) ?_
  refine g_istore_n C dX1_onPlatesOf_1 rfl (by decide) (lo2 := [(3, .int 0), (0, .ref x), (1, .int a0), (2, .int a1)]) rfl ?_
  refine g_iconst C (v := 0) dX1_onPlatesOf_2 (by decide) ?_
  refine g_istore C dX1_onPlatesOf_3 (by decide) (lo2 := [(4, .int 0), (3, .int 0), (0, .ref x), (1, .int a0), (2, .int a1)]) rfl ?_
  refine g_lo (is := [2, 3, 4, 1, 0]) (lo2 := [(0, .ref x), (1, .int a0), (2, .int a1), (3, .int 0), (4, .int 0)]) rfl ?_
  exact l_5 8 a0 (ra0) a1 (ra1) 0 0 (rg_w rc_0 (by decide) (by decide)) (ms_s (a := 0) (b := 7) (N := 8) (rg_w rc_0 (by decide) (by decide)) (by decide))
set_option maxRecDepth 100000 in
set_option maxHeartbeats 8000000 in
theorem c_X8_everybody {l : Launch} {D : va_G} {cy : Nat → ClassId} {L : List Nat} {κ ln : Nat → Nat} {R : Nat → Nat → Option Nat} {I : Nat → Nat → Int32} {J : Nat → Nat → Int64} {ow : Nat → Nat × Nat} (W9 : ∀ a ∈ L, Shp L κ ln R ow a) {x : Nat} (hLx : x ∈ L) (hkx : κ x = 8) (hU : Iv L κ R ow I) : CtI l yX8_everybody cX8_everybody 1 (some .int) { frames := 0, cells := 0, slots := 0, locals := 0 } D cy L κ ln R I J [.ref x] (fun r I2 J2 => I = I2 ∧ J = J2 ∧ Rg 0 127 r) := by
  refine CtI.of (by decide +kernel) (Nat.le_of_ble_eq_true rfl) ?_
  intro p e s m below meth c B K
  have C := B.1
  refine g_lo (is := [0]) (lo2 := [(0, .ref x)]) rfl ?_
  refine g_iconst C (v := 1) dX8_everybody_0 (by decide) ?_
  refine g_aload_n C 0 dX8_everybody_1 rfl rfl ?_
  obtain ⟨x_1, hx_1, rx_1⟩ := ex_get (I := I) (a := x) (j := 5) (lo := 0) (hi := 7) hU.1 hLx (ro_o hkx (by decide)) rfl
  refine g_getI C K hLx hkx f_8_28 (v := x_1) hx_1 dX8_everybody_2 ?_
  obtain ⟨x_2, hx_2, rx_2⟩ := ex_shl (x := 1) (y := x_1) 7 128 rfl (rx_1) (by decide)
  refine g_ishl C (v := x_2) dX8_everybody_5 hx_2 ?_
  refine g_iconst C (v := 1) dX8_everybody_6 (by decide) ?_
  obtain ⟨x_3, hx_3, rx_3, tx_3⟩ := ex_sub 0 127 rx_2 rc_1 (by decide) (by decide) (by decide) (by decide)
  refine g_isub C (v := x_3) dX8_everybody_7 hx_3 ?_
  exact g_zret (ty := .int) (r := x_3) B K rfl (rfl) ⟨rfl, rfl, rx_3⟩ dX8_everybody_8
set_option maxRecDepth 100000 in
set_option maxHeartbeats 8000000 in
theorem c_X11_dish {l : Launch} {D : va_G} {cy : Nat → ClassId} {L : List Nat} {κ ln : Nat → Nat} {R : Nat → Nat → Option Nat} {I : Nat → Nat → Int32} {J : Nat → Nat → Int64} {ow : Nat → Nat × Nat} (W9 : ∀ a ∈ L, Shp L κ ln R ow a) {x : Nat} (hLx : x ∈ L) (hkx : κ x = 11) (a0 : Int32) (a1 : Int32) (hU : Iv L κ R ow I) : CtI l yX11_dish cX11_dish 3 (some .int) { frames := 2, cells := 0, slots := 0, locals := 46 } D cy L κ ln R I J [.ref x, .int a0, .int a1] (fun r I2 J2 => I = I2 ∧ J = J2 ∧ Rg (-2147483648) 2147483647 r) := by
  refine CtI.of (by decide +kernel) (Nat.le_of_ble_eq_true rfl) ?_
  intro p e s m below meth c B K
  have C := B.1
  obtain ⟨b_1, hb_1, hb_1L, hb_1k⟩ := shp_o (W9 x hLx) hkx 1 8 rfl (by decide)
  obtain ⟨b_2, hb_2, hb_2L, hb_2k⟩ := shp_o (W9 x hLx) hkx 2 1 rfl (by decide)
  obtain ⟨b_3, hb_3, hb_3L, hb_3k, hb_3n, hb_3o⟩ := shp_a (W9 b_1 hb_1L) hb_1k 4 14 6 rfl (by decide)
  obtain ⟨b_4, hb_4, hb_4L, hb_4k, hb_4n, hb_4o⟩ := shp_a (W9 b_2 hb_2L) hb_2k 1 14 6 rfl (by decide)
  refine g_lo (is := [0, 1, 2]) (lo2 := [(0, .ref x), (1, .int a0), (2, .int a1)]) rfl ?_
  refine g_aload_n C 0 dX11_dish_0 rfl rfl ?_
  refine g_getR C K hLx hkx f_11_19 hb_1 dX11_dish_1 ?_
  refine g_iload_n C 1 dX11_dish_4 rfl rfl ?_
  refine g_callVI C K (c_X8_hasDish W9 hb_1L hb_1k a0  hU) hb_1L hb_1k (by decide) rfl v_11_175 rfl ⟨rfl, rfl⟩ ⟨Nat.le_of_ble_eq_true rfl, Nat.le_of_ble_eq_true rfl⟩ (Nat.le_of_ble_eq_true rfl) ⟨Nat.le_of_ble_eq_true rfl, Nat.le_of_ble_eq_true rfl⟩ dX11_dish_5 rfl (st := []) (fun x_5 I_6 J_7 h_8 => ?_)
  obtain ⟨rfl, rfl, rx_5, ex_5⟩ := h_8
  refine g_if_ne C (tgt := 13) dX11_dish_8 (by decide) (fun h_9 => ?_) (fun h_9 => ?_)
  · skip
    have n_10 : ¬ x_5 = 0 := h_9
    have r_11 := ne_lo (lo := 1) n_10 rx_5 rc_0 rfl (by decide)
    have r_12 := rg_i (rg_all a0) ((ex_5) n_10) (lo := 0) (hi := 5) (by decide) (by decide)
    refine g_iload_n C 2 dX11_dish_13 rfl rfl ?_
    by_cases c_13 : a1.toInt = 0
    · skip
      have r_14 := rg_of (a := 0) (b := 0) 0 c_13 (by decide) (by decide)
      refine g_tableIn C (tgt := 40) dX11_dish_14 (by omega) (by omega) (off := 26) (by rw [c_13]; rfl) (by decide) ?_
      refine g_aload_n C 0 dX11_dish_40 rfl rfl ?_
      refine g_getR C K hLx hkx f_11_28 hb_2 dX11_dish_41 ?_
      refine g_getR C K hb_2L hb_2k f_11_182 hb_4 dX11_dish_44 ?_
      refine g_iload_n C 1 dX11_dish_47 rfl rfl ?_
      obtain ⟨x_15, hx_15, rx_15⟩ := ex_any (z0 := I b_4 (a0.toNatClampNeg))
      refine h_iald C K hb_4L hb_4k (v := x_15) (a0.toNatClampNeg) (rfl) (ix_0 r_12 (by decide)) (ix_lt r_12 (by decide) hb_4n (by decide)) hx_15 dX11_dish_48 ?_
      exact g_zret (ty := .int) (r := x_15) B K rfl (rfl) ⟨rfl, rfl, rx_15⟩ dX11_dish_49
    by_cases c_16 : a1.toInt = 1
    · skip
      have r_17 := rg_of (a := 1) (b := 1) 1 c_16 (by decide) (by decide)
      refine g_tableIn C (tgt := 50) dX11_dish_14 (by omega) (by omega) (off := 36) (by rw [c_16]; rfl) (by decide) ?_
      refine g_aload_n C 0 dX11_dish_50 rfl rfl ?_
      refine g_getR C K hLx hkx f_11_19 hb_1 dX11_dish_51 ?_
      refine g_getR C K hb_1L hb_1k f_11_185 hb_3 dX11_dish_54 ?_
      refine g_iload_n C 1 dX11_dish_57 rfl rfl ?_
      obtain ⟨x_18, hx_18, rx_18⟩ := ex_any (z0 := I b_3 (a0.toNatClampNeg))
      refine h_iald C K hb_3L hb_3k (v := x_18) (a0.toNatClampNeg) (rfl) (ix_0 r_12 (by decide)) (ix_lt r_12 (by decide) hb_3n (by decide)) hx_18 dX11_dish_58 ?_
      exact g_zret (ty := .int) (r := x_18) B K rfl (rfl) ⟨rfl, rfl, rx_18⟩ dX11_dish_59
    by_cases c_19 : a1.toInt = 2
    · skip
      have r_20 := rg_of (a := 2) (b := 2) 2 c_19 (by decide) (by decide)
      refine g_tableIn C (tgt := 60) dX11_dish_14 (by omega) (by omega) (off := 46) (by rw [c_19]; rfl) (by decide) ?_
      refine g_aload_n C 0 dX11_dish_60 rfl rfl ?_
      refine g_getR C K hLx hkx f_11_28 hb_2 dX11_dish_61 ?_
      refine g_aload_n C 0 dX11_dish_64 rfl rfl ?_
      refine g_getR C K hLx hkx f_11_19 hb_1 dX11_dish_65 ?_
      refine g_callVI C K (c_X8_everybody W9 hb_1L hb_1k   hU) hb_1L hb_1k (by decide) rfl v_11_188 rfl ⟨rfl, rfl⟩ ⟨Nat.le_of_ble_eq_true rfl, Nat.le_of_ble_eq_true rfl⟩ (Nat.le_of_ble_eq_true rfl) ⟨Nat.le_of_ble_eq_true rfl, Nat.le_of_ble_eq_true rfl⟩ dX11_dish_68 rfl (st := [.ref b_2]) (fun x_21 I_22 J_23 h_24 => ?_)
      obtain ⟨rfl, rfl, rx_21⟩ := h_24
      refine g_iload_n C 1 dX11_dish_71 rfl rfl ?_
      refine g_callVI C K (c_X1_onPlatesOf W9 hb_2L hb_2k x_21 a0 (rx_21) (r_12) hU) hb_2L hb_2k (by decide) rfl v_11_192 rfl ⟨rfl, rfl⟩ ⟨Nat.le_of_ble_eq_true rfl, Nat.le_of_ble_eq_true rfl⟩ (Nat.le_of_ble_eq_true rfl) ⟨Nat.le_of_ble_eq_true rfl, Nat.le_of_ble_eq_true rfl⟩ dX11_dish_72 rfl (st := []) (fun x_25 I_26 J_27 h_28 => ?_)
      obtain ⟨rfl, rfl, rx_25⟩ := h_28
      exact g_zret (ty := .int) (r := x_25) B K rfl (rfl) ⟨rfl, rfl, rx_25⟩ dX11_dish_75
    obtain ⟨q_291, q_292⟩ := (rg_all a1)
    refine g_tableOut C (tgt := 76) dX11_dish_14 (by omega) (by decide) ?_
    refine g_iconst C (v := (-1)) dX11_dish_76 (by decide) ?_
    exact g_zret (ty := .int) (r := (-1)) B K rfl (rfl) ⟨rfl, rfl, rg_all _⟩ dX11_dish_77
  · skip
    have r_30 := (⟨(rx_5).1, (eq_rg (h_9) rc_0).2⟩ : Rg 0 0 x_5)
    refine g_iconst C (v := (-1)) dX11_dish_11 (by decide) ?_
    exact g_zret (ty := .int) (r := (-1)) B K rfl (rfl) ⟨rfl, rfl, rg_all _⟩ dX11_dish_12
