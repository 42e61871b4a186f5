theorem dX11_dish_0 : decode cX11_dish 0 = .ok (.aload_n 0, 1) := by decide +kernel
theorem dX11_dish_1 : decode cX11_dish 1 = .ok (.getfield 19, 3) := by decide +kernel
theorem dX11_dish_4 : decode cX11_dish 4 = .ok (.iload_n 1, 1) := by decide +kernel
theorem dX11_dish_5 : decode cX11_dish 5 = .ok (.invokevirtual 175, 3) := by decide +kernel
theorem dX11_dish_8 : decode cX11_dish 8 = .ok (.ifCond .ne 5, 3) := by decide +kernel
theorem dX11_dish_11 : decode cX11_dish 11 = .ok (.iconst (-1), 1) := by decide +kernel
theorem dX11_dish_12 : decode cX11_dish 12 = .ok (.ireturn, 1) := by decide +kernel
theorem dX11_dish_13 : decode cX11_dish 13 = .ok (.iload_n 2, 1) := by decide +kernel
theorem dX11_dish_14 : decode cX11_dish 14 = .ok (.tableswitch 62 0 2 #[26, 36, 46], 26) := by decide +kernel
theorem dX11_dish_40 : decode cX11_dish 40 = .ok (.aload_n 0, 1) := by decide +kernel
theorem dX11_dish_41 : decode cX11_dish 41 = .ok (.getfield 28, 3) := by decide +kernel
theorem dX11_dish_44 : decode cX11_dish 44 = .ok (.getfield 182, 3) := by decide +kernel
theorem dX11_dish_47 : decode cX11_dish 47 = .ok (.iload_n 1, 1) := by decide +kernel
theorem dX11_dish_48 : decode cX11_dish 48 = .ok (.iaload, 1) := by decide +kernel
theorem dX11_dish_49 : decode cX11_dish 49 = .ok (.ireturn, 1) := by decide +kernel
theorem dX11_dish_50 : decode cX11_dish 50 = .ok (.aload_n 0, 1) := by decide +kernel
theorem dX11_dish_51 : decode cX11_dish 51 = .ok (.getfield 19, 3) := by decide +kernel
theorem dX11_dish_54 : decode cX11_dish 54 = .ok (.getfield 185, 3) := by decide +kernel
theorem dX11_dish_57 : decode cX11_dish 57 = .ok (.iload_n 1, 1) := by decide +kernel
theorem dX11_dish_58 : decode cX11_dish 58 = .ok (.iaload, 1) := by decide +kernel
theorem dX11_dish_59 : decode cX11_dish 59 = .ok (.ireturn, 1) := by decide +kernel
theorem dX11_dish_60 : decode cX11_dish 60 = .ok (.aload_n 0, 1) := by decide +kernel
theorem dX11_dish_61 : decode cX11_dish 61 = .ok (.getfield 28, 3) := by decide +kernel
theorem dX11_dish_64 : decode cX11_dish 64 = .ok (.aload_n 0, 1) := by decide +kernel
theorem dX11_dish_65 : decode cX11_dish 65 = .ok (.getfield 19, 3) := by decide +kernel
theorem dX11_dish_68 : decode cX11_dish 68 = .ok (.invokevirtual 188, 3) := by decide +kernel
theorem dX11_dish_71 : decode cX11_dish 71 = .ok (.iload_n 1, 1) := by decide +kernel
theorem dX11_dish_72 : decode cX11_dish 72 = .ok (.invokevirtual 192, 3) := by decide +kernel
theorem dX11_dish_75 : decode cX11_dish 75 = .ok (.ireturn, 1) := by decide +kernel
theorem dX11_dish_76 : decode cX11_dish 76 = .ok (.iconst (-1), 1) := by decide +kernel
theorem dX11_dish_77 : decode cX11_dish 77 = .ok (.ireturn, 1) := by decide +kernel
theorem dX11_fault_0 : decode cX11_fault 0 = .ok (.aload_n 0, 1) := by decide +kernel
theorem dX11_fault_1 : decode cX11_fault 1 = .ok (.getfield 10, 3) := by decide +kernel
theorem dX11_fault_4 : decode cX11_fault 4 = .ok (.getfield 113, 3) := by decide +kernel
theorem dX11_fault_7 : decode cX11_fault 7 = .ok (.ireturn, 1) := by decide +kernel
theorem dX11_plate_0 : decode cX11_plate 0 = .ok (.aload_n 0, 1) := by decide +kernel
theorem dX11_plate_1 : decode cX11_plate 1 = .ok (.getfield 19, 3) := by decide +kernel
theorem dX11_plate_4 : decode cX11_plate 4 = .ok (.iload_n 1, 1) := by decide +kernel
theorem dX11_plate_5 : decode cX11_plate 5 = .ok (.invokevirtual 133, 3) := by decide +kernel
theorem dX11_plate_8 : decode cX11_plate 8 = .ok (.ifCond .eq 14, 3) := by decide +kernel
theorem dX11_plate_11 : decode cX11_plate 11 = .ok (.aload_n 0, 1) := by decide +kernel
theorem dX11_plate_12 : decode cX11_plate 12 = .ok (.getfield 19, 3) := by decide +kernel
theorem dX11_plate_15 : decode cX11_plate 15 = .ok (.iload_n 2, 1) := by decide +kernel
theorem dX11_plate_16 : decode cX11_plate 16 = .ok (.invokevirtual 175, 3) := by decide +kernel
theorem dX11_plate_19 : decode cX11_plate 19 = .ok (.ifCond .ne 5, 3) := by decide +kernel
theorem dX11_plate_22 : decode cX11_plate 22 = .ok (.iconst (-1), 1) := by decide +kernel
theorem dX11_plate_23 : decode cX11_plate 23 = .ok (.ireturn, 1) := by decide +kernel
theorem dX11_plate_24 : decode cX11_plate 24 = .ok (.aload_n 0, 1) := by decide +kernel
theorem dX11_plate_25 : decode cX11_plate 25 = .ok (.getfield 28, 3) := by decide +kernel
theorem dX11_plate_28 : decode cX11_plate 28 = .ok (.iload_n 1, 1) := by decide +kernel
theorem dX11_plate_29 : decode cX11_plate 29 = .ok (.iload_n 2, 1) := by decide +kernel
theorem dX11_plate_30 : decode cX11_plate 30 = .ok (.invokevirtual 178, 3) := by decide +kernel
theorem dX11_plate_33 : decode cX11_plate 33 = .ok (.ireturn, 1) := by decide +kernel
theorem dX11_table_0 : decode cX11_table 0 = .ok (.aload_n 0, 1) := by decide +kernel
theorem dX11_table_1 : decode cX11_table 1 = .ok (.getfield 45, 3) := by decide +kernel
theorem dX11_table_4 : decode cX11_table 4 = .ok (.aload_n 0, 1) := by decide +kernel
theorem dX11_table_5 : decode cX11_table 5 = .ok (.getfield 10, 3) := by decide +kernel
theorem dX11_table_8 : decode cX11_table 8 = .ok (.invokevirtual 109, 3) := by decide +kernel
theorem dX11_table_11 : decode cX11_table 11 = .ok (.istore_n 1, 1) := by decide +kernel
theorem dX11_table_12 : decode cX11_table 12 = .ok (.aload_n 0, 1) := by decide +kernel
theorem dX11_table_13 : decode cX11_table 13 = .ok (.getfield 10, 3) := by decide +kernel
theorem dX11_table_16 : decode cX11_table 16 = .ok (.iconst 0, 1) := by decide +kernel
theorem dX11_table_17 : decode cX11_table 17 = .ok (.putfield 102, 3) := by decide +kernel
theorem dX11_table_20 : decode cX11_table 20 = .ok (.aload_n 0, 1) := by decide +kernel
theorem dX11_table_21 : decode cX11_table 21 = .ok (.getfield 10, 3) := by decide +kernel
theorem dX11_table_24 : decode cX11_table 24 = .ok (.getfield 113, 3) := by decide +kernel
theorem dX11_table_27 : decode cX11_table 27 = .ok (.ifCond .eq 13, 3) := by decide +kernel
theorem dX11_table_30 : decode cX11_table 30 = .ok (.iconst (-1), 1) := by decide +kernel
theorem dX11_table_31 : decode cX11_table 31 = .ok (.aload_n 0, 1) := by decide +kernel
theorem dX11_table_32 : decode cX11_table 32 = .ok (.getfield 10, 3) := by decide +kernel
theorem dX11_table_35 : decode cX11_table 35 = .ok (.getfield 116, 3) := by decide +kernel
theorem dX11_table_38 : decode cX11_table 38 = .ok (.isub, 1) := by decide +kernel
theorem dX11_table_39 : decode cX11_table 39 = .ok (.ireturn, 1) := by decide +kernel
theorem dX11_table_40 : decode cX11_table 40 = .ok (.aload_n 0, 1) := by decide +kernel
theorem dX11_table_41 : decode cX11_table 41 = .ok (.getfield 19, 3) := by decide +kernel
theorem dX11_table_44 : decode cX11_table 44 = .ok (.aload_n 0, 1) := by decide +kernel
theorem dX11_table_45 : decode cX11_table 45 = .ok (.getfield 45, 3) := by decide +kernel
theorem dX11_table_48 : decode cX11_table 48 = .ok (.getfield 119, 3) := by decide +kernel
theorem dX11_table_51 : decode cX11_table 51 = .ok (.invokevirtual 120, 3) := by decide +kernel
theorem dX11_table_54 : decode cX11_table 54 = .ok (.aload_n 0, 1) := by decide +kernel
theorem dX11_table_55 : decode cX11_table 55 = .ok (.getfield 28, 3) := by decide +kernel
theorem dX11_table_58 : decode cX11_table 58 = .ok (.aload_n 0, 1) := by decide +kernel
theorem dX11_table_59 : decode cX11_table 59 = .ok (.getfield 45, 3) := by decide +kernel
theorem dX11_table_62 : decode cX11_table 62 = .ok (.getfield 123, 3) := by decide +kernel
theorem dX11_table_65 : decode cX11_table 65 = .ok (.invokevirtual 126, 3) := by decide +kernel
theorem dX11_table_68 : decode cX11_table 68 = .ok (.aload_n 0, 1) := by decide +kernel
theorem dX11_table_69 : decode cX11_table 69 = .ok (.getfield 59, 3) := by decide +kernel
theorem dX11_table_72 : decode cX11_table 72 = .ok (.invokevirtual 129, 3) := by decide +kernel
theorem dX11_table_75 : decode cX11_table 75 = .ok (.aload_n 0, 1) := by decide +kernel
theorem dX11_table_76 : decode cX11_table 76 = .ok (.getfield 38, 3) := by decide +kernel
theorem dX11_table_79 : decode cX11_table 79 = .ok (.invokevirtual 132, 3) := by decide +kernel
theorem dX11_table_82 : decode cX11_table 82 = .ok (.iload_n 1, 1) := by decide +kernel
theorem dX11_table_83 : decode cX11_table 83 = .ok (.ireturn, 1) := by decide +kernel
theorem dX1_addToPlate_0 : decode cX1_addToPlate 0 = .ok (.aload_n 0, 1) := by decide +kernel
theorem dX1_addToPlate_1 : decode cX1_addToPlate 1 = .ok (.getfield 15, 3) := by decide +kernel
theorem dX1_addToPlate_4 : decode cX1_addToPlate 4 = .ok (.iload_n 1, 1) := by decide +kernel
theorem dX1_addToPlate_5 : decode cX1_addToPlate 5 = .ok (.bipush 6, 2) := by decide +kernel
theorem dX1_addToPlate_7 : decode cX1_addToPlate 7 = .ok (.imul, 1) := by decide +kernel
theorem dX1_addToPlate_8 : decode cX1_addToPlate 8 = .ok (.iload_n 2, 1) := by decide +kernel
theorem dX1_addToPlate_9 : decode cX1_addToPlate 9 = .ok (.iadd, 1) := by decide +kernel
theorem dX1_addToPlate_10 : decode cX1_addToPlate 10 = .ok (.dup2, 1) := by decide +kernel
theorem dX1_addToPlate_11 : decode cX1_addToPlate 11 = .ok (.iaload, 1) := by decide +kernel
theorem dX1_addToPlate_12 : decode cX1_addToPlate 12 = .ok (.iload_n 3, 1) := by decide +kernel
theorem dX1_addToPlate_13 : decode cX1_addToPlate 13 = .ok (.iadd, 1) := by decide +kernel
theorem dX1_addToPlate_14 : decode cX1_addToPlate 14 = .ok (.iastore, 1) := by decide +kernel
theorem dX1_addToPlate_15 : decode cX1_addToPlate 15 = .ok (.aload_n 0, 1) := by decide +kernel
theorem dX1_addToPlate_16 : decode cX1_addToPlate 16 = .ok (.getfield 18, 3) := by decide +kernel
theorem dX1_addToPlate_19 : decode cX1_addToPlate 19 = .ok (.iload_n 1, 1) := by decide +kernel
theorem dX1_addToPlate_20 : decode cX1_addToPlate 20 = .ok (.dup2, 1) := by decide +kernel
theorem dX1_addToPlate_21 : decode cX1_addToPlate 21 = .ok (.iaload, 1) := by decide +kernel
theorem dX1_addToPlate_22 : decode cX1_addToPlate 22 = .ok (.iload_n 3, 1) := by decide +kernel
theorem dX1_addToPlate_23 : decode cX1_addToPlate 23 = .ok (.iadd, 1) := by decide +kernel
theorem dX1_addToPlate_24 : decode cX1_addToPlate 24 = .ok (.iastore, 1) := by decide +kernel
theorem dX1_addToPlate_25 : decode cX1_addToPlate 25 = .ok (.return_, 1) := by decide +kernel
theorem dX1_onPlate_0 : decode cX1_onPlate 0 = .ok (.aload_n 0, 1) := by decide +kernel
theorem dX1_onPlate_1 : decode cX1_onPlate 1 = .ok (.getfield 15, 3) := by decide +kernel
theorem dX1_onPlate_4 : decode cX1_onPlate 4 = .ok (.iload_n 1, 1) := by decide +kernel
theorem dX1_onPlate_5 : decode cX1_onPlate 5 = .ok (.bipush 6, 2) := by decide +kernel
theorem dX1_onPlate_7 : decode cX1_onPlate 7 = .ok (.imul, 1) := by decide +kernel
theorem dX1_onPlate_8 : decode cX1_onPlate 8 = .ok (.iload_n 2, 1) := by decide +kernel
theorem dX1_onPlate_9 : decode cX1_onPlate 9 = .ok (.iadd, 1) := by decide +kernel
theorem dX1_onPlate_10 : decode cX1_onPlate 10 = .ok (.iaload, 1) := by decide +kernel
theorem dX1_onPlate_11 : decode cX1_onPlate 11 = .ok (.ireturn, 1) := by decide +kernel
theorem dX1_onPlatesOf_0 : decode cX1_onPlatesOf 0 = .ok (.iconst 0, 1) := by decide +kernel
theorem dX1_onPlatesOf_1 : decode cX1_onPlatesOf 1 = .ok (.istore_n 3, 1) := by decide +kernel
theorem dX1_onPlatesOf_2 : decode cX1_onPlatesOf 2 = .ok (.iconst 0, 1) := by decide +kernel
theorem dX1_onPlatesOf_3 : decode cX1_onPlatesOf 3 = .ok (.istore 4, 2) := by decide +kernel
theorem dX1_onPlatesOf_5 : decode cX1_onPlatesOf 5 = .ok (.iload 4, 2) := by decide +kernel
theorem dX1_onPlatesOf_7 : decode cX1_onPlatesOf 7 = .ok (.aload_n 0, 1) := by decide +kernel
theorem dX1_onPlatesOf_8 : decode cX1_onPlatesOf 8 = .ok (.getfield 52, 3) := by decide +kernel
theorem dX1_onPlatesOf_11 : decode cX1_onPlatesOf 11 = .ok (.getfield 68, 3) := by decide +kernel
theorem dX1_onPlatesOf_14 : decode cX1_onPlatesOf 14 = .ok (.if_icmp .ge 28, 3) := by decide +kernel
theorem dX1_onPlatesOf_17 : decode cX1_onPlatesOf 17 = .ok (.iload_n 1, 1) := by decide +kernel
theorem dX1_onPlatesOf_18 : decode cX1_onPlatesOf 18 = .ok (.iload 4, 2) := by decide +kernel
theorem dX1_onPlatesOf_20 : decode cX1_onPlatesOf 20 = .ok (.ishr, 1) := by decide +kernel
theorem dX1_onPlatesOf_21 : decode cX1_onPlatesOf 21 = .ok (.iconst 1, 1) := by decide +kernel
theorem dX1_onPlatesOf_22 : decode cX1_onPlatesOf 22 = .ok (.iand, 1) := by decide +kernel
theorem dX1_onPlatesOf_23 : decode cX1_onPlatesOf 23 = .ok (.ifCond .eq 13, 3) := by decide +kernel
theorem dX1_onPlatesOf_26 : decode cX1_onPlatesOf 26 = .ok (.iload_n 3, 1) := by decide +kernel
theorem dX1_onPlatesOf_27 : decode cX1_onPlatesOf 27 = .ok (.aload_n 0, 1) := by decide +kernel
theorem dX1_onPlatesOf_28 : decode cX1_onPlatesOf 28 = .ok (.iload 4, 2) := by decide +kernel
theorem dX1_onPlatesOf_30 : decode cX1_onPlatesOf 30 = .ok (.iload_n 2, 1) := by decide +kernel
theorem dX1_onPlatesOf_31 : decode cX1_onPlatesOf 31 = .ok (.invokevirtual 71, 3) := by decide +kernel
theorem dX1_onPlatesOf_34 : decode cX1_onPlatesOf 34 = .ok (.iadd, 1) := by decide +kernel
theorem dX1_onPlatesOf_35 : decode cX1_onPlatesOf 35 = .ok (.istore_n 3, 1) := by decide +kernel
theorem dX1_onPlatesOf_36 : decode cX1_onPlatesOf 36 = .ok (.iinc 4 1, 3) := by decide +kernel
theorem dX1_onPlatesOf_39 : decode cX1_onPlatesOf 39 = .ok (.goto (-34), 3) := by decide +kernel
theorem dX1_onPlatesOf_42 : decode cX1_onPlatesOf 42 = .ok (.iload_n 3, 1) := by decide +kernel
theorem dX1_onPlatesOf_43 : decode cX1_onPlatesOf 43 = .ok (.ireturn, 1) := by decide +kernel
theorem dX8_everybody_0 : decode cX8_everybody 0 = .ok (.iconst 1, 1) := by decide +kernel
theorem dX8_everybody_1 : decode cX8_everybody 1 = .ok (.aload_n 0, 1) := by decide +kernel
theorem dX8_everybody_2 : decode cX8_everybody 2 = .ok (.getfield 28, 3) := by decide +kernel
theorem dX8_everybody_5 : decode cX8_everybody 5 = .ok (.ishl, 1) := by decide +kernel
theorem dX8_everybody_6 : decode cX8_everybody 6 = .ok (.iconst 1, 1) := by decide +kernel
theorem dX8_everybody_7 : decode cX8_everybody 7 = .ok (.isub, 1) := by decide +kernel
theorem dX8_everybody_8 : decode cX8_everybody 8 = .ok (.ireturn, 1) := by decide +kernel
theorem dX8_hasDish_0 : decode cX8_hasDish 0 = .ok (.iload_n 1, 1) := by decide +kernel
theorem dX8_hasDish_1 : decode cX8_hasDish 1 = .ok (.ifCond .lt 15, 3) := by decide +kernel
theorem dX8_hasDish_4 : decode cX8_hasDish 4 = .ok (.iload_n 1, 1) := by decide +kernel
theorem dX8_hasDish_5 : decode cX8_hasDish 5 = .ok (.aload_n 0, 1) := by decide +kernel
theorem dX8_hasDish_6 : decode cX8_hasDish 6 = .ok (.getfield 32, 3) := by decide +kernel
theorem dX8_hasDish_9 : decode cX8_hasDish 9 = .ok (.if_icmp .ge 7, 3) := by decide +kernel
theorem dX8_hasDish_12 : decode cX8_hasDish 12 = .ok (.iconst 1, 1) := by decide +kernel
theorem dX8_hasDish_13 : decode cX8_hasDish 13 = .ok (.goto 4, 3) := by decide +kernel
theorem dX8_hasDish_16 : decode cX8_hasDish 16 = .ok (.iconst 0, 1) := by decide +kernel
theorem dX8_hasDish_17 : decode cX8_hasDish 17 = .ok (.ireturn, 1) := by decide +kernel
theorem dX8_hasPerson_0 : decode cX8_hasPerson 0 = .ok (.iload_n 1, 1) := by decide +kernel
theorem dX8_hasPerson_1 : decode cX8_hasPerson 1 = .ok (.ifCond .lt 15, 3) := by decide +kernel
theorem dX8_hasPerson_4 : decode cX8_hasPerson 4 = .ok (.iload_n 1, 1) := by decide +kernel
theorem dX8_hasPerson_5 : decode cX8_hasPerson 5 = .ok (.aload_n 0, 1) := by decide +kernel
theorem dX8_hasPerson_6 : decode cX8_hasPerson 6 = .ok (.getfield 28, 3) := by decide +kernel
theorem dX8_hasPerson_9 : decode cX8_hasPerson 9 = .ok (.if_icmp .ge 7, 3) := by decide +kernel
theorem dX8_hasPerson_12 : decode cX8_hasPerson 12 = .ok (.iconst 1, 1) := by decide +kernel
theorem dX8_hasPerson_13 : decode cX8_hasPerson 13 = .ok (.goto 4, 3) := by decide +kernel
theorem dX8_hasPerson_16 : decode cX8_hasPerson 16 = .ok (.iconst 0, 1) := by decide +kernel
theorem dX8_hasPerson_17 : decode cX8_hasPerson 17 = .ok (.ireturn, 1) := by decide +kernel
theorem dX9_readFrom_0 : decode cX9_readFrom 0 = .ok (.aload_n 0, 1) := by decide +kernel
theorem dX9_readFrom_1 : decode cX9_readFrom 1 = .ok (.getfield 12, 3) := by decide +kernel
theorem dX9_readFrom_4 : decode cX9_readFrom 4 = .ok (.invokevirtual 34, 3) := by decide +kernel
theorem dX9_readFrom_7 : decode cX9_readFrom 7 = .ok (.aload_n 0, 1) := by decide +kernel
theorem dX9_readFrom_8 : decode cX9_readFrom 8 = .ok (.getfield 23, 3) := by decide +kernel
theorem dX9_readFrom_11 : decode cX9_readFrom 11 = .ok (.invokevirtual 37, 3) := by decide +kernel
theorem dX9_readFrom_14 : decode cX9_readFrom 14 = .ok (.aload_n 0, 1) := by decide +kernel
theorem dX9_readFrom_15 : decode cX9_readFrom 15 = .ok (.iconst 0, 1) := by decide +kernel
theorem dX9_readFrom_16 : decode cX9_readFrom 16 = .ok (.putfield 27, 3) := by decide +kernel
theorem dX9_readFrom_19 : decode cX9_readFrom 19 = .ok (.aload_n 0, 1) := by decide +kernel
theorem dX9_readFrom_20 : decode cX9_readFrom 20 = .ok (.iconst 0, 1) := by decide +kernel
theorem dX9_readFrom_21 : decode cX9_readFrom 21 = .ok (.putfield 31, 3) := by decide +kernel
theorem dX9_readFrom_24 : decode cX9_readFrom 24 = .ok (.aload_n 1, 1) := by decide +kernel
theorem dX9_readFrom_25 : decode cX9_readFrom 25 = .ok (.sipush 900, 3) := by decide +kernel
theorem dX9_readFrom_28 : decode cX9_readFrom 28 = .ok (.invokevirtual 38, 3) := by decide +kernel
theorem dX9_readFrom_31 : decode cX9_readFrom 31 = .ok (.iconst 0, 1) := by decide +kernel
theorem dX9_readFrom_32 : decode cX9_readFrom 32 = .ok (.istore_n 2, 1) := by decide +kernel
theorem dX9_readFrom_33 : decode cX9_readFrom 33 = .ok (.iload_n 2, 1) := by decide +kernel
theorem dX9_readFrom_34 : decode cX9_readFrom 34 = .ok (.sipush 900, 3) := by decide +kernel
theorem dX9_readFrom_37 : decode cX9_readFrom 37 = .ok (.if_icmp .ge 26, 3) := by decide +kernel
theorem dX9_readFrom_40 : decode cX9_readFrom 40 = .ok (.aload_n 1, 1) := by decide +kernel
theorem dX9_readFrom_41 : decode cX9_readFrom 41 = .ok (.getfield 44, 3) := by decide +kernel
theorem dX9_readFrom_44 : decode cX9_readFrom 44 = .ok (.bipush 102, 2) := by decide +kernel
theorem dX9_readFrom_46 : decode cX9_readFrom 46 = .ok (.if_icmp .eq 17, 3) := by decide +kernel
theorem dX9_readFrom_49 : decode cX9_readFrom 49 = .ok (.aload_n 0, 1) := by decide +kernel
theorem dX9_readFrom_50 : decode cX9_readFrom 50 = .ok (.aload_n 1, 1) := by decide +kernel
theorem dX9_readFrom_51 : decode cX9_readFrom 51 = .ok (.invokevirtual 48, 3) := by decide +kernel
theorem dX9_readFrom_54 : decode cX9_readFrom 54 = .ok (.ifCond .eq 9, 3) := by decide +kernel
theorem dX9_readFrom_57 : decode cX9_readFrom 57 = .ok (.iinc 2 1, 3) := by decide +kernel
theorem dX9_readFrom_60 : decode cX9_readFrom 60 = .ok (.goto (-27), 3) := by decide +kernel
theorem dX9_readFrom_63 : decode cX9_readFrom 63 = .ok (.iload_n 2, 1) := by decide +kernel
theorem dX9_readFrom_64 : decode cX9_readFrom 64 = .ok (.ireturn, 1) := by decide +kernel
theorem dX9_readLine_0 : decode cX9_readLine 0 = .ok (.aload_n 1, 1) := by decide +kernel
theorem dX9_readLine_1 : decode cX9_readLine 1 = .ok (.getfield 44, 3) := by decide +kernel
theorem dX9_readLine_4 : decode cX9_readLine 4 = .ok (.tableswitch 66 0 4 #[36, 42, 48, 54, 60], 36) := by decide +kernel
theorem dX9_readLine_40 : decode cX9_readLine 40 = .ok (.aload_n 0, 1) := by decide +kernel
theorem dX9_readLine_41 : decode cX9_readLine 41 = .ok (.aload_n 1, 1) := by decide +kernel
theorem dX9_readLine_42 : decode cX9_readLine 42 = .ok (.invokevirtual 52, 3) := by decide +kernel
theorem dX9_readLine_45 : decode cX9_readLine 45 = .ok (.ireturn, 1) := by decide +kernel
theorem dX9_readLine_46 : decode cX9_readLine 46 = .ok (.aload_n 0, 1) := by decide +kernel
theorem dX9_readLine_47 : decode cX9_readLine 47 = .ok (.aload_n 1, 1) := by decide +kernel
theorem dX9_readLine_48 : decode cX9_readLine 48 = .ok (.invokevirtual 55, 3) := by decide +kernel
theorem dX9_readLine_51 : decode cX9_readLine 51 = .ok (.ireturn, 1) := by decide +kernel
theorem dX9_readLine_52 : decode cX9_readLine 52 = .ok (.aload_n 0, 1) := by decide +kernel
theorem dX9_readLine_53 : decode cX9_readLine 53 = .ok (.aload_n 1, 1) := by decide +kernel
theorem dX9_readLine_54 : decode cX9_readLine 54 = .ok (.invokevirtual 58, 3) := by decide +kernel
theorem dX9_readLine_57 : decode cX9_readLine 57 = .ok (.ireturn, 1) := by decide +kernel
theorem dX9_readLine_58 : decode cX9_readLine 58 = .ok (.aload_n 0, 1) := by decide +kernel
theorem dX9_readLine_59 : decode cX9_readLine 59 = .ok (.aload_n 1, 1) := by decide +kernel
theorem dX9_readLine_60 : decode cX9_readLine 60 = .ok (.invokevirtual 61, 3) := by decide +kernel
theorem dX9_readLine_63 : decode cX9_readLine 63 = .ok (.ireturn, 1) := by decide +kernel
theorem dX9_readLine_64 : decode cX9_readLine 64 = .ok (.aload_n 0, 1) := by decide +kernel
theorem dX9_readLine_65 : decode cX9_readLine 65 = .ok (.aload_n 1, 1) := by decide +kernel
theorem dX9_readLine_66 : decode cX9_readLine 66 = .ok (.invokevirtual 64, 3) := by decide +kernel
theorem dX9_readLine_69 : decode cX9_readLine 69 = .ok (.ireturn, 1) := by decide +kernel
theorem dX9_readLine_70 : decode cX9_readLine 70 = .ok (.aload_n 1, 1) := by decide +kernel
theorem dX9_readLine_71 : decode cX9_readLine 71 = .ok (.iconst 1, 1) := by decide +kernel
theorem dX9_readLine_72 : decode cX9_readLine 72 = .ok (.invokevirtual 67, 3) := by decide +kernel
theorem dX9_readLine_75 : decode cX9_readLine 75 = .ok (.ireturn, 1) := by decide +kernel
theorem dX9_readPerson_0 : decode cX9_readPerson 0 = .ok (.aload_n 0, 1) := by decide +kernel
theorem dX9_readPerson_1 : decode cX9_readPerson 1 = .ok (.getfield 12, 3) := by decide +kernel
theorem dX9_readPerson_4 : decode cX9_readPerson 4 = .ok (.getfield 85, 3) := by decide +kernel
theorem dX9_readPerson_7 : decode cX9_readPerson 7 = .ok (.bipush 7, 2) := by decide +kernel
theorem dX9_readPerson_9 : decode cX9_readPerson 9 = .ok (.if_icmp .lt 9, 3) := by decide +kernel
theorem dX9_readPerson_12 : decode cX9_readPerson 12 = .ok (.aload_n 1, 1) := by decide +kernel
theorem dX9_readPerson_13 : decode cX9_readPerson 13 = .ok (.iconst 4, 1) := by decide +kernel
theorem dX9_readPerson_14 : decode cX9_readPerson 14 = .ok (.invokevirtual 67, 3) := by decide +kernel
theorem dX9_readPerson_17 : decode cX9_readPerson 17 = .ok (.ireturn, 1) := by decide +kernel
theorem dX9_readPerson_18 : decode cX9_readPerson 18 = .ok (.aload_n 1, 1) := by decide +kernel
theorem dX9_readPerson_19 : decode cX9_readPerson 19 = .ok (.invokevirtual 82, 3) := by decide +kernel
theorem dX9_readPerson_22 : decode cX9_readPerson 22 = .ok (.aload_n 1, 1) := by decide +kernel
theorem dX9_readPerson_23 : decode cX9_readPerson 23 = .ok (.getfield 71, 3) := by decide +kernel
theorem dX9_readPerson_26 : decode cX9_readPerson 26 = .ok (.lstore_n 2, 1) := by decide +kernel
theorem dX9_readPerson_27 : decode cX9_readPerson 27 = .ok (.aload_n 0, 1) := by decide +kernel
theorem dX9_readPerson_28 : decode cX9_readPerson 28 = .ok (.aload_n 1, 1) := by decide +kernel
theorem dX9_readPerson_29 : decode cX9_readPerson 29 = .ok (.invokevirtual 88, 3) := by decide +kernel
theorem dX9_readPerson_32 : decode cX9_readPerson 32 = .ok (.ifCond .ne 5, 3) := by decide +kernel
theorem dX9_readPerson_35 : decode cX9_readPerson 35 = .ok (.iconst 0, 1) := by decide +kernel
theorem dX9_readPerson_36 : decode cX9_readPerson 36 = .ok (.ireturn, 1) := by decide +kernel
theorem dX9_readPerson_37 : decode cX9_readPerson 37 = .ok (.aload_n 1, 1) := by decide +kernel
theorem dX9_readPerson_38 : decode cX9_readPerson 38 = .ok (.iconst 0, 1) := by decide +kernel
theorem dX9_readPerson_39 : decode cX9_readPerson 39 = .ok (.bipush 20, 2) := by decide +kernel
theorem dX9_readPerson_41 : decode cX9_readPerson 41 = .ok (.invokevirtual 91, 3) := by decide +kernel
theorem dX9_readPerson_44 : decode cX9_readPerson 44 = .ok (.istore 4, 2) := by decide +kernel
theorem dX9_readPerson_46 : decode cX9_readPerson 46 = .ok (.iload 4, 2) := by decide +kernel
theorem dX9_readPerson_48 : decode cX9_readPerson 48 = .ok (.iconst (-1), 1) := by decide +kernel
theorem dX9_readPerson_49 : decode cX9_readPerson 49 = .ok (.if_icmp .ne 5, 3) := by decide +kernel
theorem dX9_readPerson_52 : decode cX9_readPerson 52 = .ok (.iconst 0, 1) := by decide +kernel
theorem dX9_readPerson_53 : decode cX9_readPerson 53 = .ok (.ireturn, 1) := by decide +kernel
theorem dX9_readPerson_54 : decode cX9_readPerson 54 = .ok (.iconst (-1), 1) := by decide +kernel
theorem dX9_readPerson_55 : decode cX9_readPerson 55 = .ok (.istore 5, 2) := by decide +kernel
theorem dX9_readPerson_57 : decode cX9_readPerson 57 = .ok (.aload_n 1, 1) := by decide +kernel
theorem dX9_readPerson_58 : decode cX9_readPerson 58 = .ok (.getfield 44, 3) := by decide +kernel
theorem dX9_readPerson_61 : decode cX9_readPerson 61 = .ok (.iconst 5, 1) := by decide +kernel
theorem dX9_readPerson_62 : decode cX9_readPerson 62 = .ok (.if_icmp .ne 32, 3) := by decide +kernel
theorem dX9_readPerson_65 : decode cX9_readPerson 65 = .ok (.aload_n 1, 1) := by decide +kernel
theorem dX9_readPerson_66 : decode cX9_readPerson 66 = .ok (.invokevirtual 82, 3) := by decide +kernel
theorem dX9_readPerson_69 : decode cX9_readPerson 69 = .ok (.aload_n 1, 1) := by decide +kernel
theorem dX9_readPerson_70 : decode cX9_readPerson 70 = .ok (.aload_n 0, 1) := by decide +kernel
theorem dX9_readPerson_71 : decode cX9_readPerson 71 = .ok (.getfield 12, 3) := by decide +kernel
theorem dX9_readPerson_74 : decode cX9_readPerson 74 = .ok (.aload_n 1, 1) := by decide +kernel
theorem dX9_readPerson_75 : decode cX9_readPerson 75 = .ok (.getfield 71, 3) := by decide +kernel
theorem dX9_readPerson_78 : decode cX9_readPerson 78 = .ok (.invokevirtual 75, 3) := by decide +kernel
theorem dX9_readPerson_81 : decode cX9_readPerson 81 = .ok (.invokevirtual 95, 3) := by decide +kernel
theorem dX9_readPerson_84 : decode cX9_readPerson 84 = .ok (.istore 5, 2) := by decide +kernel
theorem dX9_readPerson_86 : decode cX9_readPerson 86 = .ok (.iload 5, 2) := by decide +kernel
theorem dX9_readPerson_88 : decode cX9_readPerson 88 = .ok (.iconst (-1), 1) := by decide +kernel
theorem dX9_readPerson_89 : decode cX9_readPerson 89 = .ok (.if_icmp .ne 5, 3) := by decide +kernel
theorem dX9_readPerson_92 : decode cX9_readPerson 92 = .ok (.iconst 0, 1) := by decide +kernel
theorem dX9_readPerson_93 : decode cX9_readPerson 93 = .ok (.ireturn, 1) := by decide +kernel
theorem dX9_readPerson_94 : decode cX9_readPerson 94 = .ok (.aload_n 0, 1) := by decide +kernel
theorem dX9_readPerson_95 : decode cX9_readPerson 95 = .ok (.getfield 12, 3) := by decide +kernel
theorem dX9_readPerson_98 : decode cX9_readPerson 98 = .ok (.getfield 99, 3) := by decide +kernel
theorem dX9_readPerson_101 : decode cX9_readPerson 101 = .ok (.aload_n 0, 1) := by decide +kernel
theorem dX9_readPerson_102 : decode cX9_readPerson 102 = .ok (.getfield 12, 3) := by decide +kernel
theorem dX9_readPerson_105 : decode cX9_readPerson 105 = .ok (.getfield 85, 3) := by decide +kernel
theorem dX9_readPerson_108 : decode cX9_readPerson 108 = .ok (.lload_n 2, 1) := by decide +kernel
theorem dX9_readPerson_109 : decode cX9_readPerson 109 = .ok (.lastore, 1) := by decide +kernel
theorem dX9_readPerson_110 : decode cX9_readPerson 110 = .ok (.aload_n 0, 1) := by decide +kernel
theorem dX9_readPerson_111 : decode cX9_readPerson 111 = .ok (.getfield 12, 3) := by decide +kernel
theorem dX9_readPerson_114 : decode cX9_readPerson 114 = .ok (.getfield 103, 3) := by decide +kernel
theorem dX9_readPerson_117 : decode cX9_readPerson 117 = .ok (.aload_n 0, 1) := by decide +kernel
theorem dX9_readPerson_118 : decode cX9_readPerson 118 = .ok (.getfield 12, 3) := by decide +kernel
theorem dX9_readPerson_121 : decode cX9_readPerson 121 = .ok (.getfield 85, 3) := by decide +kernel
theorem dX9_readPerson_124 : decode cX9_readPerson 124 = .ok (.iload 4, 2) := by decide +kernel
theorem dX9_readPerson_126 : decode cX9_readPerson 126 = .ok (.iastore, 1) := by decide +kernel
theorem dX9_readPerson_127 : decode cX9_readPerson 127 = .ok (.aload_n 0, 1) := by decide +kernel
theorem dX9_readPerson_128 : decode cX9_readPerson 128 = .ok (.getfield 12, 3) := by decide +kernel
theorem dX9_readPerson_131 : decode cX9_readPerson 131 = .ok (.getfield 107, 3) := by decide +kernel
theorem dX9_readPerson_134 : decode cX9_readPerson 134 = .ok (.aload_n 0, 1) := by decide +kernel
theorem dX9_readPerson_135 : decode cX9_readPerson 135 = .ok (.getfield 12, 3) := by decide +kernel
theorem dX9_readPerson_138 : decode cX9_readPerson 138 = .ok (.getfield 85, 3) := by decide +kernel
theorem dX9_readPerson_141 : decode cX9_readPerson 141 = .ok (.iload 5, 2) := by decide +kernel
theorem dX9_readPerson_143 : decode cX9_readPerson 143 = .ok (.iastore, 1) := by decide +kernel
theorem dX9_readPerson_144 : decode cX9_readPerson 144 = .ok (.aload_n 0, 1) := by decide +kernel
theorem dX9_readPerson_145 : decode cX9_readPerson 145 = .ok (.getfield 12, 3) := by decide +kernel
theorem dX9_readPerson_148 : decode cX9_readPerson 148 = .ok (.dup, 1) := by decide +kernel
theorem dX9_readPerson_149 : decode cX9_readPerson 149 = .ok (.getfield 85, 3) := by decide +kernel
theorem dX9_readPerson_152 : decode cX9_readPerson 152 = .ok (.iconst 1, 1) := by decide +kernel
theorem dX9_readPerson_153 : decode cX9_readPerson 153 = .ok (.iadd, 1) := by decide +kernel
theorem dX9_readPerson_154 : decode cX9_readPerson 154 = .ok (.putfield 85, 3) := by decide +kernel
theorem dX9_readPerson_157 : decode cX9_readPerson 157 = .ok (.aload_n 1, 1) := by decide +kernel
theorem dX9_readPerson_158 : decode cX9_readPerson 158 = .ok (.bipush 59, 2) := by decide +kernel
theorem dX9_readPerson_160 : decode cX9_readPerson 160 = .ok (.invokevirtual 110, 3) := by decide +kernel
theorem dX9_readPerson_163 : decode cX9_readPerson 163 = .ok (.ireturn, 1) := by decide +kernel
theorem dX9_readPlate_0 : decode cX9_readPlate 0 = .ok (.aload_n 1, 1) := by decide +kernel
theorem dX9_readPlate_1 : decode cX9_readPlate 1 = .ok (.invokevirtual 82, 3) := by decide +kernel
theorem dX9_readPlate_4 : decode cX9_readPlate 4 = .ok (.aload_n 1, 1) := by decide +kernel
theorem dX9_readPlate_5 : decode cX9_readPlate 5 = .ok (.aload_n 0, 1) := by decide +kernel
theorem dX9_readPlate_6 : decode cX9_readPlate 6 = .ok (.getfield 12, 3) := by decide +kernel
theorem dX9_readPlate_9 : decode cX9_readPlate 9 = .ok (.aload_n 1, 1) := by decide +kernel
theorem dX9_readPlate_10 : decode cX9_readPlate 10 = .ok (.getfield 71, 3) := by decide +kernel
theorem dX9_readPlate_13 : decode cX9_readPlate 13 = .ok (.invokevirtual 75, 3) := by decide +kernel
theorem dX9_readPlate_16 : decode cX9_readPlate 16 = .ok (.invokevirtual 95, 3) := by decide +kernel
theorem dX9_readPlate_19 : decode cX9_readPlate 19 = .ok (.istore_n 2, 1) := by decide +kernel
theorem dX9_readPlate_20 : decode cX9_readPlate 20 = .ok (.iload_n 2, 1) := by decide +kernel
theorem dX9_readPlate_21 : decode cX9_readPlate 21 = .ok (.iconst (-1), 1) := by decide +kernel
theorem dX9_readPlate_22 : decode cX9_readPlate 22 = .ok (.if_icmp .ne 5, 3) := by decide +kernel
theorem dX9_readPlate_25 : decode cX9_readPlate 25 = .ok (.iconst 0, 1) := by decide +kernel
theorem dX9_readPlate_26 : decode cX9_readPlate 26 = .ok (.ireturn, 1) := by decide +kernel
theorem dX9_readPlate_27 : decode cX9_readPlate 27 = .ok (.aload_n 0, 1) := by decide +kernel
theorem dX9_readPlate_28 : decode cX9_readPlate 28 = .ok (.getfield 12, 3) := by decide +kernel
theorem dX9_readPlate_31 : decode cX9_readPlate 31 = .ok (.aload_n 1, 1) := by decide +kernel
theorem dX9_readPlate_32 : decode cX9_readPlate 32 = .ok (.getfield 71, 3) := by decide +kernel
theorem dX9_readPlate_35 : decode cX9_readPlate 35 = .ok (.invokevirtual 79, 3) := by decide +kernel
theorem dX9_readPlate_38 : decode cX9_readPlate 38 = .ok (.istore_n 3, 1) := by decide +kernel
theorem dX9_readPlate_39 : decode cX9_readPlate 39 = .ok (.aload_n 1, 1) := by decide +kernel
theorem dX9_readPlate_40 : decode cX9_readPlate 40 = .ok (.getfield 44, 3) := by decide +kernel
theorem dX9_readPlate_43 : decode cX9_readPlate 43 = .ok (.bipush 100, 2) := by decide +kernel
theorem dX9_readPlate_45 : decode cX9_readPlate 45 = .ok (.if_icmp .ne 26, 3) := by decide +kernel
theorem dX9_readPlate_48 : decode cX9_readPlate 48 = .ok (.iload_n 3, 1) := by decide +kernel
theorem dX9_readPlate_49 : decode cX9_readPlate 49 = .ok (.iconst (-1), 1) := by decide +kernel
theorem dX9_readPlate_50 : decode cX9_readPlate 50 = .ok (.if_icmp .eq 21, 3) := by decide +kernel
theorem dX9_readPlate_53 : decode cX9_readPlate 53 = .ok (.aload_n 0, 1) := by decide +kernel
theorem dX9_readPlate_54 : decode cX9_readPlate 54 = .ok (.getfield 23, 3) := by decide +kernel
theorem dX9_readPlate_57 : decode cX9_readPlate 57 = .ok (.iload_n 2, 1) := by decide +kernel
theorem dX9_readPlate_58 : decode cX9_readPlate 58 = .ok (.iload_n 3, 1) := by decide +kernel
theorem dX9_readPlate_59 : decode cX9_readPlate 59 = .ok (.invokevirtual 125, 3) := by decide +kernel
theorem dX9_readPlate_62 : decode cX9_readPlate 62 = .ok (.ifCond .le 9, 3) := by decide +kernel
theorem dX9_readPlate_65 : decode cX9_readPlate 65 = .ok (.aload_n 1, 1) := by decide +kernel
theorem dX9_readPlate_66 : decode cX9_readPlate 66 = .ok (.iconst 3, 1) := by decide +kernel
theorem dX9_readPlate_67 : decode cX9_readPlate 67 = .ok (.invokevirtual 67, 3) := by decide +kernel
theorem dX9_readPlate_70 : decode cX9_readPlate 70 = .ok (.ireturn, 1) := by decide +kernel
theorem dX9_readPlate_71 : decode cX9_readPlate 71 = .ok (.aload_n 1, 1) := by decide +kernel
theorem dX9_readPlate_72 : decode cX9_readPlate 72 = .ok (.iload_n 3, 1) := by decide +kernel
theorem dX9_readPlate_73 : decode cX9_readPlate 73 = .ok (.invokevirtual 95, 3) := by decide +kernel
theorem dX9_readPlate_76 : decode cX9_readPlate 76 = .ok (.iconst (-1), 1) := by decide +kernel
theorem dX9_readPlate_77 : decode cX9_readPlate 77 = .ok (.if_icmp .ne 5, 3) := by decide +kernel
theorem dX9_readPlate_80 : decode cX9_readPlate 80 = .ok (.iconst 0, 1) := by decide +kernel
theorem dX9_readPlate_81 : decode cX9_readPlate 81 = .ok (.ireturn, 1) := by decide +kernel
theorem dX9_readPlate_82 : decode cX9_readPlate 82 = .ok (.aload_n 1, 1) := by decide +kernel
theorem dX9_readPlate_83 : decode cX9_readPlate 83 = .ok (.iconst 1, 1) := by decide +kernel
theorem dX9_readPlate_84 : decode cX9_readPlate 84 = .ok (.bipush 40, 2) := by decide +kernel
theorem dX9_readPlate_86 : decode cX9_readPlate 86 = .ok (.invokevirtual 91, 3) := by decide +kernel
theorem dX9_readPlate_89 : decode cX9_readPlate 89 = .ok (.istore 4, 2) := by decide +kernel
theorem dX9_readPlate_91 : decode cX9_readPlate 91 = .ok (.iload 4, 2) := by decide +kernel
theorem dX9_readPlate_93 : decode cX9_readPlate 93 = .ok (.iconst (-1), 1) := by decide +kernel
theorem dX9_readPlate_94 : decode cX9_readPlate 94 = .ok (.if_icmp .ne 5, 3) := by decide +kernel
theorem dX9_readPlate_97 : decode cX9_readPlate 97 = .ok (.iconst 0, 1) := by decide +kernel
theorem dX9_readPlate_98 : decode cX9_readPlate 98 = .ok (.ireturn, 1) := by decide +kernel
theorem dX9_readPlate_99 : decode cX9_readPlate 99 = .ok (.aload_n 0, 1) := by decide +kernel
theorem dX9_readPlate_100 : decode cX9_readPlate 100 = .ok (.getfield 23, 3) := by decide +kernel
theorem dX9_readPlate_103 : decode cX9_readPlate 103 = .ok (.iload_n 2, 1) := by decide +kernel
theorem dX9_readPlate_104 : decode cX9_readPlate 104 = .ok (.iload_n 3, 1) := by decide +kernel
theorem dX9_readPlate_105 : decode cX9_readPlate 105 = .ok (.iload 4, 2) := by decide +kernel
theorem dX9_readPlate_107 : decode cX9_readPlate 107 = .ok (.invokevirtual 128, 3) := by decide +kernel
theorem dX9_readPlate_110 : decode cX9_readPlate 110 = .ok (.aload_n 1, 1) := by decide +kernel
theorem dX9_readPlate_111 : decode cX9_readPlate 111 = .ok (.bipush 59, 2) := by decide +kernel
theorem dX9_readPlate_113 : decode cX9_readPlate 113 = .ok (.invokevirtual 110, 3) := by decide +kernel
theorem dX9_readPlate_116 : decode cX9_readPlate 116 = .ok (.ireturn, 1) := by decide +kernel
theorem rc_5 : Rg 5 5 5 := ⟨by decide, by decide⟩
theorem rc_20 : Rg 20 20 20 := ⟨by decide, by decide⟩
theorem rc_900 : Rg 900 900 900 := ⟨by decide, by decide⟩
set_option maxRecDepth 100000 in
set_option maxHeartbeats 8000000 in
theorem c_X9_readPerson {l : Launch} {D : va_G} {cy : Nat → ClassId} {L : List Nat} {κ ln : Nat → Nat} {R : Nat → Nat → Option Nat} {I : Nat → Nat → Int32} {J : Nat → Nat → Int64} {ow : Nat → Nat × Nat} (W9 : ∀ a ∈ L, Shp L κ ln R ow a) {x : Nat} (hLx : x ∈ L) (hkx : κ x = 9) {a0 : Nat} (hLa0 : a0 ∈ L) (hka0 : κ a0 = 10) (hU : Iv L κ R ow I) : CtI l yX9_readPerson cX9_readPerson 6 (some .boolean) { frames := 2, cells := 0, slots := 0, locals := 44 } D cy L κ ln R I J [.ref x, .ref a0] (fun r I2 J2 => Iv L κ R ow I2 ∧ Fq L κ ow [805, 1007, 1008, 1009, 1011, 1012, 58100, 58200] I I2 ∧ Fq L κ ow [1010, 58000] J J2 ∧ Rg 0 1 r) := by
  refine CtI.of (by decide +kernel) (Nat.le_of_ble_eq_true rfl) ?_
  intro p e s m below meth c B K
  have C := B.1
  have hF : Fq L κ ow [805, 1007, 1008, 1009, 1011, 1012, 58100, 58200] I I := fq_rf
  have hG : Fq L κ ow [1010, 58000] J J := fq_rf
  obtain ⟨b_1, hb_1, hb_1L, hb_1k⟩ := shp_o (W9 x hLx) hkx 0 8 rfl (by decide)
  obtain ⟨b_2, hb_2, hb_2L, hb_2k, hb_2n, hb_2o⟩ := shp_a (W9 b_1 hb_1L) hb_1k 0 15 7 rfl (by decide)
  obtain ⟨b_3, hb_3, hb_3L, hb_3k, hb_3n, hb_3o⟩ := shp_a (W9 b_1 hb_1L) hb_1k 1 14 7 rfl (by decide)
  obtain ⟨b_4, hb_4, hb_4L, hb_4k, hb_4n, hb_4o⟩ := shp_a (W9 b_1 hb_1L) hb_1k 2 14 7 rfl (by decide)
  refine g_lo (is := [0, 1]) (lo2 := [(0, .ref x), (1, .ref a0)]) rfl ?_
  have j_94 : ∀ (I_5 : Nat → Nat → Int32) (J_6 : Nat → Nat → Int64) (hU_7 : Iv L κ R ow I_5) (hF_8 : Fq L κ ow [805, 1007, 1008, 1009, 1011, 1012, 58100, 58200] I I_5) (hG_9 : Fq L κ ow [1010, 58000] J J_6) (y_10 : Int64) (v_11 : Int32) (nv_11_m1 : ¬ v_11 = (-1)) (v_12 : Int32) (rv_12 : Rg (-1) 6 v_12) (v_13 : Int32) (rv_13 : Rg 0 6 v_13) (q_14 : I_5 b_1 5 = v_13), WG p l e { frames := 2, cells := 0, slots := 0, locals := 44 } s m ([.ref x, .ref a0] : List Value).toArray below meth c 6 0 0 (MQ below (Qi_ D cy L κ ln R (fun r I2 J2 => Iv L κ R ow I2 ∧ Fq L κ ow [805, 1007, 1008, 1009, 1011, 1012, 58100, 58200] I I2 ∧ Fq L κ ow [1010, 58000] J J2 ∧ Rg 0 1 r)) ([.ref x, .ref a0] : List Value).toArray s 0 0 (Al_ L)) D cy (Al_ L) s.heap L κ ln R I_5 J_6 94 [(0, .ref x), (1, .ref a0), (2, .long y_10), (4, .int v_11), (5, .int v_12)] [] := by
    intro I_5 J_6 hU_7 hF_8 hG_9 y_10 v_11 nv_11_m1 v_12 rv_12 v_13 rv_13 q_14
    refine g_aload_n C 0 dX9_readPerson_94 rfl rfl ?_
    refine g_getR C K hLx hkx f_9_12 hb_1 dX9_readPerson_95 ?_
    refine g_getR C K hb_1L hb_1k f_9_99 hb_2 dX9_readPerson_98 ?_
    refine g_aload_n C 0 dX9_readPerson_101 rfl rfl ?_
    refine g_getR C K hLx hkx f_9_12 hb_1 dX9_readPerson_102 ?_
    refine g_getI C K hb_1L hb_1k f_9_85 (v := v_13) q_14 dX9_readPerson_105 ?_
    refine g_lload_n C 2 dX9_readPerson_108 rfl rfl ?_
    refine h_last C K hb_2L hb_2k (v_13.toNatClampNeg) (rfl) (ix_0 rv_13 (by decide)) (ix_lt rv_13 (by decide) hb_2n (by decide)) dX9_readPerson_109 (fun J_15 hJ_15 => ?_)
    have hG_16 := fq_puta hG_9 hJ_15 (ro_a hb_2k (by decide) hb_2o hb_1k rfl) (by decide) (by decide)
    refine g_aload_n C 0 dX9_readPerson_110 rfl rfl ?_
    refine g_getR C K hLx hkx f_9_12 hb_1 dX9_readPerson_111 ?_
    refine g_getR C K hb_1L hb_1k f_9_103 hb_3 dX9_readPerson_114 ?_
    refine g_aload_n C 0 dX9_readPerson_117 rfl rfl ?_
    refine g_getR C K hLx hkx f_9_12 hb_1 dX9_readPerson_118 ?_
    refine g_getI C K hb_1L hb_1k f_9_85 (v := v_13) q_14 dX9_readPerson_121 ?_
    refine g_iload C 3 dX9_readPerson_124 rfl ?_
    refine h_iast C K hb_3L hb_3k (v_13.toNatClampNeg) (rfl) (ix_0 rv_13 (by decide)) (ix_lt rv_13 (by decide) hb_3n (by decide)) dX9_readPerson_126 (fun I_17 hI_17 => ?_)
    have hU_18 := iv_put W9 hU_7 hI_17 (ro_a hb_3k (by decide) hb_3o hb_1k rfl) (lo := (-2147483648)) (hi := 2147483647) (rfl) ((rg_all v_11)) rfl
    have hF_19 := fq_puta hF_8 hI_17 (ro_a hb_3k (by decide) hb_3o hb_1k rfl) (by decide) (by decide)
    refine g_aload_n C 0 dX9_readPerson_127 rfl rfl ?_
    refine g_getR C K hLx hkx f_9_12 hb_1 dX9_readPerson_128 ?_
    refine g_getR C K hb_1L hb_1k f_9_107 hb_4 dX9_readPerson_131 ?_
    refine g_aload_n C 0 dX9_readPerson_134 rfl rfl ?_
    refine g_getR C K hLx hkx f_9_12 hb_1 dX9_readPerson_135 ?_
    refine g_getI C K hb_1L hb_1k f_9_85 (v := v_13) (kp_k (κ := κ) hI_17 (by rw [hb_1k, hb_3k]; decide) q_14) dX9_readPerson_138 ?_
    refine g_iload C 4 dX9_readPerson_141 rfl ?_
    refine h_iast C K hb_4L hb_4k (v_13.toNatClampNeg) (rfl) (ix_0 rv_13 (by decide)) (ix_lt rv_13 (by decide) hb_4n (by decide)) dX9_readPerson_143 (fun I_20 hI_20 => ?_)
    have hU_21 := iv_put W9 hU_18 hI_20 (ro_a hb_4k (by decide) hb_4o hb_1k rfl) (lo := (-1)) (hi := 6) (rfl) (rv_12) rfl
    have hF_22 := fq_puta hF_19 hI_20 (ro_a hb_4k (by decide) hb_4o hb_1k rfl) (by decide) (by decide)
    refine g_aload_n C 0 dX9_readPerson_144 rfl rfl ?_
    refine g_getR C K hLx hkx f_9_12 hb_1 dX9_readPerson_145 ?_
    refine g_dup C dX9_readPerson_148 rfl ?_
    refine g_getI C K hb_1L hb_1k f_9_85 (v := v_13) (kp_k (κ := κ) hI_20 (by rw [hb_1k, hb_4k]; decide) (kp_k (κ := κ) hI_17 (by rw [hb_1k, hb_3k]; decide) q_14)) dX9_readPerson_149 ?_
    refine g_iconst C (v := 1) dX9_readPerson_152 (by decide) ?_
    obtain ⟨x_23, hx_23, rx_23, tx_23⟩ := ex_add 1 7 rv_13 rc_1 (by decide) (by decide) (by decide) (by decide)
    refine g_iadd C (v := x_23) dX9_readPerson_153 hx_23 ?_
    refine h_putI C K hb_1L hb_1k f_9_85 p_8_5 dX9_readPerson_154 (fun I_24 hI_24 => ?_)
    have hU_25 := iv_put W9 hU_21 hI_24 (ro_o hb_1k (by decide)) (lo := 0) (hi := 7) (rfl) (rg_w rx_23 (by decide) (by decide)) rfl
    have hF_26 := fq_puto hF_22 hI_24 hb_1k (by decide) (by decide)
    refine g_aload_n C 1 dX9_readPerson_157 rfl rfl ?_
    refine g_bipush C (v := 59) dX9_readPerson_158 (by decide) ?_
    refine g_callVI C K (c_X10_take W9 hLa0 hka0 59 (rg_w rc_59 (by decide) (by decide)) hU_25) hLa0 hka0 (by decide) rfl v_9_110 rfl ⟨rfl, rfl⟩ ⟨Nat.le_of_ble_eq_true rfl, Nat.le_of_ble_eq_true rfl⟩ (Nat.le_of_ble_eq_true rfl) ⟨Nat.le_of_ble_eq_true rfl, Nat.le_of_ble_eq_true rfl⟩ dX9_readPerson_160 rfl (st := []) (fun x_27 I_28 J_29 h_30 => ?_)
    obtain ⟨hUI_28, hFI_28, hGJ_29, rx_27⟩ := h_30
    have hF_31 := fq_tr hF_26 hFI_28 (by decide)
    have hG_32 := fq_tr hG_16 hGJ_29 (by decide)
    exact g_zret (ty := .boolean) (r := x_27) B K rfl (nar_z (rx_27)) ⟨hUI_28, hF_31, hG_32, rx_27⟩ dX9_readPerson_163
  refine g_aload_n C 0 dX9_readPerson_0 rfl rfl ?_
  refine g_getR C K hLx hkx f_9_12 hb_1 dX9_readPerson_1 ?_
  obtain ⟨x_33, hx_33, rx_33⟩ := ex_get (I := I) (a := b_1) (j := 5) (lo := 0) (hi := 7) hU.1 hb_1L (ro_o hb_1k (by decide)) rfl
  refine g_getI C K hb_1L hb_1k f_9_85 (v := x_33) hx_33 dX9_readPerson_4 ?_
  refine g_bipush C (v := 7) dX9_readPerson_7 (by decide) ?_
  refine g_icmp_lt C (tgt := 18) dX9_readPerson_9 (by decide) (fun h_34 => ?_) (fun h_34 => ?_)
  · skip
    have r_35 := lt_l (hi := 6) (h_34) rx_33 rc_7 (by decide)
    refine g_aload_n C 1 dX9_readPerson_18 rfl rfl ?_
    refine g_callVV C K (c_X10_advance W9 hLa0 hka0   hU) hLa0 hka0 (by decide) rfl v_9_82 rfl ⟨rfl, rfl⟩ ⟨Nat.le_of_ble_eq_true rfl, Nat.le_of_ble_eq_true rfl⟩ (Nat.le_of_ble_eq_true rfl) ⟨Nat.le_of_ble_eq_true rfl, Nat.le_of_ble_eq_true rfl⟩ dX9_readPerson_19 rfl (st := []) (fun I_37 J_38 h_39 => ?_)
    obtain ⟨hUI_37, hFI_37, hGJ_38⟩ := h_39
    have hF_40 := fq_tr hF hFI_37 (by decide)
    have hG_41 := fq_tr hG hGJ_38 (by decide)
    refine g_aload_n C 1 dX9_readPerson_22 rfl rfl ?_
    obtain ⟨y_42, hy_42⟩ : ∃ z, J_38 a0 10 = z := ⟨_, rfl⟩
    refine g_getJ C K hLa0 hka0 f_9_71 (v := y_42) hy_42 dX9_readPerson_23 ?_
    refine g_lstore_n C dX9_readPerson_26 rfl (by decide) (lo2 := [(2, .long y_42), (0, .ref x), (1, .ref a0)]) rfl ?_
    refine g_aload_n C 1 dX9_readPerson_27 rfl rfl ?_
    refine g_aload_n C 2 dX9_readPerson_28 rfl rfl ?_
    refine g_callVI C K (c_X9_newName W9 hLx hkx hLa0 hka0  hUI_37) hLx hkx (by decide) rfl v_9_88 rfl ⟨rfl, rfl⟩ ⟨Nat.le_of_ble_eq_true rfl, Nat.le_of_ble_eq_true rfl⟩ (Nat.le_of_ble_eq_true rfl) ⟨Nat.le_of_ble_eq_true rfl, Nat.le_of_ble_eq_true rfl⟩ dX9_readPerson_29 rfl (st := []) (fun x_43 I_44 J_45 h_46 => ?_)
    obtain ⟨hUI_44, hFI_44, hGJ_45, rx_43⟩ := h_46
    have hF_47 := fq_tr hF_40 hFI_44 (by decide)
    have hG_48 := fq_tr hG_41 hGJ_45 (by decide)
    refine g_if_ne C (tgt := 37) dX9_readPerson_32 (by decide) (fun h_49 => ?_) (fun h_49 => ?_)
    · skip
      have n_50 : ¬ x_43 = 0 := h_49
      have r_51 := ne_lo (lo := 1) n_50 rx_43 rc_0 rfl (by decide)
      refine g_aload_n C 2 dX9_readPerson_37 rfl rfl ?_
      refine g_iconst C (v := 0) dX9_readPerson_38 (by decide) ?_
      refine g_bipush C (v := 20) dX9_readPerson_39 (by decide) ?_
      refine g_callVI C K (c_X10_takeNumber W9 hLa0 hka0 0 20 (rg_w rc_0 (by decide) (by decide)) (rg_w rc_20 (by decide) (by decide)) hUI_44) hLa0 hka0 (by decide) rfl v_9_91 rfl ⟨rfl, rfl⟩ ⟨Nat.le_of_ble_eq_true rfl, Nat.le_of_ble_eq_true rfl⟩ (Nat.le_of_ble_eq_true rfl) ⟨Nat.le_of_ble_eq_true rfl, Nat.le_of_ble_eq_true rfl⟩ dX9_readPerson_41 rfl (st := []) (fun x_52 I_53 J_54 h_55 => ?_)
      obtain ⟨hUI_53, hFI_53, hGJ_54, rx_52⟩ := h_55
      have hF_56 := fq_tr hF_47 hFI_53 (by decide)
      have hG_57 := fq_tr hG_48 hGJ_54 (by decide)
      refine g_istore C dX9_readPerson_44 (by decide) (lo2 := [(4, .int x_52), (2, .long y_42), (0, .ref x), (1, .ref a0)]) rfl ?_
      refine g_iload C 0 dX9_readPerson_46 rfl ?_
      refine g_iconst C (v := (-1)) dX9_readPerson_48 (by decide) ?_
      refine g_icmp_ne C (tgt := 54) dX9_readPerson_49 (by decide) (fun h_58 => ?_) (fun h_58 => ?_)
      · skip
        have n_59 : ¬ x_52 = (-1) := h_58
        refine g_iconst C (v := (-1)) dX9_readPerson_54 (by decide) ?_
        refine g_istore C dX9_readPerson_55 (by decide) (lo2 := [(5, .int (-1)), (4, .int x_52), (2, .long y_42), (0, .ref x), (1, .ref a0)]) rfl ?_
        refine g_aload_n C 4 dX9_readPerson_57 rfl rfl ?_
        obtain ⟨x_60, hx_60, rx_60⟩ := ex_get (I := I_53) (a := a0) (j := 8) (lo := (-2147483648)) (hi := 2147483647) hUI_53.1 hLa0 (ro_o hka0 (by decide)) rfl
        refine g_getI C K hLa0 hka0 f_9_44 (v := x_60) hx_60 dX9_readPerson_58 ?_
        refine g_iconst C (v := 5) dX9_readPerson_61 (by decide) ?_
        refine g_icmp_ne C (tgt := 94) dX9_readPerson_62 (by decide) (fun h_61 => ?_) (fun h_61 => ?_)
        · skip
          have n_62 : ¬ x_60 = 5 := h_61
          refine g_lo (is := [3, 4, 2, 1, 0]) (lo2 := [(0, .ref x), (1, .ref a0), (2, .long y_42), (4, .int x_52), (5, .int (-1))]) rfl ?_
          exact j_94 I_53 J_54 hUI_53 hF_56 hG_57 y_42 x_52 (n_59) (-1) (rg_w rc_m1 (by decide) (by decide)) x_33 (r_35) (fq_at hFI_53 hb_1L hb_1k (by decide) (by decide) (fq_at hFI_44 hb_1L hb_1k (by decide) (by decide) (fq_at hFI_37 hb_1L hb_1k (by decide) (by decide) hx_33)))
        · skip
          have r_63 := (⟨(eq_rg (h_61) rc_5).1, (eq_rg (h_61) rc_5).2⟩ : Rg 5 5 x_60)
          refine g_aload_n C 4 dX9_readPerson_65 rfl rfl ?_
          refine g_callVV C K (c_X10_advance W9 hLa0 hka0   hUI_53) hLa0 hka0 (by decide) rfl v_9_82 rfl ⟨rfl, rfl⟩ ⟨Nat.le_of_ble_eq_true rfl, Nat.le_of_ble_eq_true rfl⟩ (Nat.le_of_ble_eq_true rfl) ⟨Nat.le_of_ble_eq_true rfl, Nat.le_of_ble_eq_true rfl⟩ dX9_readPerson_66 rfl (st := []) (fun I_65 J_66 h_67 => ?_)
          obtain ⟨hUI_65, hFI_65, hGJ_66⟩ := h_67
          have hF_68 := fq_tr hF_56 hFI_65 (by decide)
          have hG_69 := fq_tr hG_57 hGJ_66 (by decide)
          refine g_aload_n C 4 dX9_readPerson_69 rfl rfl ?_
          refine g_aload_n C 3 dX9_readPerson_70 rfl rfl ?_
          refine g_getR C K hLx hkx f_9_12 hb_1 dX9_readPerson_71 ?_
          refine g_aload_n C 4 dX9_readPerson_74 rfl rfl ?_
          obtain ⟨y_70, hy_70⟩ : ∃ z, J_66 a0 10 = z := ⟨_, rfl⟩
          refine g_getJ C K hLa0 hka0 f_9_71 (v := y_70) hy_70 dX9_readPerson_75 ?_
          refine g_callVI C K (c_X8_personNamed W9 hb_1L hb_1k y_70  hUI_65) hb_1L hb_1k (by decide) rfl v_9_75 rfl ⟨rfl, rfl⟩ ⟨Nat.le_of_ble_eq_true rfl, Nat.le_of_ble_eq_true rfl⟩ (Nat.le_of_ble_eq_true rfl) ⟨Nat.le_of_ble_eq_true rfl, Nat.le_of_ble_eq_true rfl⟩ dX9_readPerson_78 rfl (st := [.ref a0]) (fun x_71 I_72 J_73 h_74 => ?_)
          obtain ⟨rfl, rfl, rx_71⟩ := h_74
          refine g_callVI C K (c_X10_takeName W9 hLa0 hka0 x_71 (rx_71) hUI_65) hLa0 hka0 (by decide) rfl v_9_95 rfl ⟨rfl, rfl⟩ ⟨Nat.le_of_ble_eq_true rfl, Nat.le_of_ble_eq_true rfl⟩ (Nat.le_of_ble_eq_true rfl) ⟨Nat.le_of_ble_eq_true rfl, Nat.le_of_ble_eq_true rfl⟩ dX9_readPerson_81 rfl (st := []) (fun x_75 I_76 J_77 h_78 => ?_)
          obtain ⟨hUI_76, hFI_76, hGJ_77, rx_75, ex_75⟩ := h_78
          have hF_79 := fq_tr hF_68 hFI_76 (by decide)
          have hG_80 := fq_tr hG_69 hGJ_77 (by decide)
          have r_81 := rg_or ex_75 (rx_71) (by decide) (by decide)
          refine g_istore C dX9_readPerson_84 (by decide) (lo2 := [(5, .int x_75), (4, .int x_52), (2, .long y_42), (0, .ref x), (1, .ref a0)]) rfl ?_
          refine g_iload C 0 dX9_readPerson_86 rfl ?_
          refine g_iconst C (v := (-1)) dX9_readPerson_88 (by decide) ?_
          refine g_icmp_ne C (tgt := 94) dX9_readPerson_89 (by decide) (fun h_82 => ?_) (fun h_82 => ?_)
          · skip
            have n_83 : ¬ x_75 = (-1) := h_82
            have r_84 := ne_lo (lo := 0) n_83 r_81 rc_m1 rfl (by decide)
            have r_85 := eq_rg (Eq.symm (Or.resolve_left ex_75 (rg_nek r_84 rc_m1 (by decide)))) r_84
            have q_86 := (fq_at hFI_76 hb_1L hb_1k (by decide) (by decide) (fq_at hFI_65 hb_1L hb_1k (by decide) (by decide) (fq_at hFI_53 hb_1L hb_1k (by decide) (by decide) (fq_at hFI_44 hb_1L hb_1k (by decide) (by decide) (fq_at hFI_37 hb_1L hb_1k (by decide) (by decide) hx_33)))))
            refine g_lo (is := [3, 4, 2, 1, 0]) (lo2 := [(0, .ref x), (1, .ref a0), (2, .long y_42), (4, .int x_52), (5, .int x_75)]) rfl ?_
            exact j_94 I_76 J_77 hUI_76 hF_79 hG_80 y_42 x_52 (n_59) x_75 (rg_w r_84 (by decide) (by decide)) x_33 (r_35) q_86
          · skip
            have r_87 := (⟨(r_81).1, (eq_rg (h_82) rc_m1).2⟩ : Rg (-1) (-1) x_75)
            refine g_iconst C (v := 0) dX9_readPerson_92 (by decide) ?_
            exact g_zret (ty := .boolean) (r := 0) B K rfl (rfl) ⟨hUI_76, hF_79, hG_80, rg_w rc_0 (by decide) (by decide)⟩ dX9_readPerson_93
      · skip
        have r_88 := (⟨(eq_rg (h_58) rc_m1).1, (eq_rg (h_58) rc_m1).2⟩ : Rg (-1) (-1) x_52)
        refine g_iconst C (v := 0) dX9_readPerson_52 (by decide) ?_
        exact g_zret (ty := .boolean) (r := 0) B K rfl (rfl) ⟨hUI_53, hF_56, hG_57, rg_w rc_0 (by decide) (by decide)⟩ dX9_readPerson_53
    · skip
      have r_89 := (⟨(rx_43).1, (eq_rg (h_49) rc_0).2⟩ : Rg 0 0 x_43)
      refine g_iconst C (v := 0) dX9_readPerson_35 (by decide) ?_
      exact g_zret (ty := .boolean) (r := 0) B K rfl (rfl) ⟨hUI_44, hF_47, hG_48, rg_w rc_0 (by decide) (by decide)⟩ dX9_readPerson_36
  · skip
    have r_90 := le_r (nlt h_34) rc_7 rx_33
    refine g_aload_n C 1 dX9_readPerson_12 rfl rfl ?_
    refine g_iconst C (v := 4) dX9_readPerson_13 (by decide) ?_
    refine g_callVI C K (c_X10_fail W9 hLa0 hka0 4 (rg_w rc_4 (by decide) (by decide)) hU) hLa0 hka0 (by decide) rfl v_9_67 rfl ⟨rfl, rfl⟩ ⟨Nat.le_of_ble_eq_true rfl, Nat.le_of_ble_eq_true rfl⟩ (Nat.le_of_ble_eq_true rfl) ⟨Nat.le_of_ble_eq_true rfl, Nat.le_of_ble_eq_true rfl⟩ dX9_readPerson_14 rfl (st := []) (fun x_91 I_92 J_93 h_94 => ?_)
    obtain ⟨hUI_92, hFI_92, hGJ_93, rx_91⟩ := h_94
    have hF_95 := fq_tr hF hFI_92 (by decide)
    have hG_96 := fq_tr hG hGJ_93 (by decide)
    exact g_zret (ty := .boolean) (r := x_91) B K rfl (nar_z (rg_w rx_91 (by decide) (by decide))) ⟨hUI_92, hF_95, hG_96, rg_w rx_91 (by decide) (by decide)⟩ dX9_readPerson_17
set_option maxRecDepth 100000 in
set_option maxHeartbeats 8000000 in
theorem c_X1_addToPlate {l : Launch} {D : va_G} {cy : Nat → ClassId} {L : List Nat} {κ ln : Nat → Nat} {R : Nat → Nat → Option Nat} {I : Nat → Nat → Int32} {J : Nat → Nat → Int64} {ow : Nat → Nat × Nat} (W9 : ∀ a ∈ L, Shp L κ ln R ow a) {x : Nat} (hLx : x ∈ L) (hkx : κ x = 1) (a0 : Int32) (a1 : Int32) (a2 : Int32) (ra0 : Rg 0 6 a0) (ra1 : Rg 0 5 a1) (hU : Iv L κ R ow I) : CtV l yX1_addToPlate cX1_addToPlate 4 none { frames := 0, cells := 0, slots := 0, locals := 0 } D cy L κ ln R I J [.ref x, .int a0, .int a1, .int a2] (fun I2 J2 => Iv L κ R ow I2 ∧ Fq L κ ow [16200, 16300] I I2 ∧ Fq L κ ow [] J J2) := by
  refine CtV.of (by decide +kernel) (Nat.le_of_ble_eq_true rfl) ?_
  intro p e s m below meth c B K
  have C := B.1
  have hF : Fq L κ ow [16200, 16300] I I := fq_rf
  have hG : Fq L κ ow [] J J := fq_rf
  obtain ⟨b_1, hb_1, hb_1L, hb_1k, hb_1n, hb_1o⟩ := shp_a (W9 x hLx) hkx 2 14 42 rfl (by decide)
  obtain ⟨b_2, hb_2, hb_2L, hb_2k, hb_2n, hb_2o⟩ := shp_a (W9 x hLx) hkx 3 14 7 rfl (by decide)
  refine g_lo (is := [0, 1, 2, 3]) (lo2 := [(0, .ref x), (1, .int a0), (2, .int a1), (3, .int a2)]) rfl ?_
  refine g_aload_n C 0 dX1_addToPlate_0 rfl rfl ?_
  refine g_getR C K hLx hkx f_1_15 hb_1 dX1_addToPlate_1 ?_
  refine g_iload_n C 1 dX1_addToPlate_4 rfl rfl ?_
  refine g_bipush C (v := 6) dX1_addToPlate_5 (by decide) ?_
  obtain ⟨x_3, hx_3, rx_3⟩ := ex_mulk 0 36 ra0 rc_6 (by decide) (by decide) (by decide) (by decide) (by decide)
  refine g_imul C (v := x_3) dX1_addToPlate_7 hx_3 ?_
  refine g_iload_n C 2 dX1_addToPlate_8 rfl rfl ?_
  obtain ⟨x_4, hx_4, rx_4, tx_4⟩ := ex_add 0 41 rx_3 ra1 (by decide) (by decide) (by decide) (by decide)
  refine g_iadd C (v := x_4) dX1_addToPlate_9 hx_4 ?_
  refine g_dup2 C dX1_addToPlate_10 rfl rfl ?_
  obtain ⟨x_5, hx_5, rx_5⟩ := ex_get (I := I) (a := b_1) (j := x_4.toNatClampNeg) (lo := (-2147483648)) (hi := 2147483647) hU.1 hb_1L (ro_a hb_1k (by decide) hb_1o hkx rfl) (rfl)
  refine h_iald C K hb_1L hb_1k (v := x_5) (x_4.toNatClampNeg) (rfl) (ix_0 rx_4 (by decide)) (ix_lt rx_4 (by decide) hb_1n (by decide)) hx_5 dX1_addToPlate_11 ?_
  refine g_iload_n C 3 dX1_addToPlate_12 rfl rfl ?_
  obtain ⟨x_6, hx_6, rx_6⟩ := ex_any (z0 := x_5 + a2)
  refine g_iadd C (v := x_6) dX1_addToPlate_13 hx_6 ?_
  refine h_iast C K hb_1L hb_1k (x_4.toNatClampNeg) (rfl) (ix_0 rx_4 (by decide)) (ix_lt rx_4 (by decide) hb_1n (by decide)) dX1_addToPlate_14 (fun I_7 hI_7 => ?_)
  have hU_8 := iv_put W9 hU hI_7 (ro_a hb_1k (by decide) hb_1o hkx rfl) (lo := (-2147483648)) (hi := 2147483647) (rfl) (rx_6) rfl
  have hF_9 := fq_puta hF hI_7 (ro_a hb_1k (by decide) hb_1o hkx rfl) (by decide) (by decide)
  refine g_aload_n C 0 dX1_addToPlate_15 rfl rfl ?_
  refine g_getR C K hLx hkx f_1_18 hb_2 dX1_addToPlate_16 ?_
  refine g_iload_n C 1 dX1_addToPlate_19 rfl rfl ?_
  refine g_dup2 C dX1_addToPlate_20 rfl rfl ?_
  obtain ⟨x_10, hx_10, rx_10⟩ := ex_get (I := I_7) (a := b_2) (j := a0.toNatClampNeg) (lo := (-2147483648)) (hi := 2147483647) hU_8.1 hb_2L (ro_a hb_2k (by decide) hb_2o hkx rfl) (rfl)
  refine h_iald C K hb_2L hb_2k (v := x_10) (a0.toNatClampNeg) (rfl) (ix_0 ra0 (by decide)) (ix_lt ra0 (by decide) hb_2n (by decide)) hx_10 dX1_addToPlate_21 ?_
  refine g_iload_n C 3 dX1_addToPlate_22 rfl rfl ?_
  obtain ⟨x_11, hx_11, rx_11⟩ := ex_any (z0 := x_10 + a2)
  refine g_iadd C (v := x_11) dX1_addToPlate_23 hx_11 ?_
  refine h_iast C K hb_2L hb_2k (a0.toNatClampNeg) (rfl) (ix_0 ra0 (by decide)) (ix_lt ra0 (by decide) hb_2n (by decide)) dX1_addToPlate_24 (fun I_12 hI_12 => ?_)
  have hU_13 := iv_put W9 hU_8 hI_12 (ro_a hb_2k (by decide) hb_2o hkx rfl) (lo := (-2147483648)) (hi := 2147483647) (rfl) (rx_11) rfl
  have hF_14 := fq_puta hF_9 hI_12 (ro_a hb_2k (by decide) hb_2o hkx rfl) (by decide) (by decide)
  exact g_vret B K rfl ⟨hU_13, hF_14, hG⟩ dX1_addToPlate_25
set_option maxRecDepth 100000 in
set_option maxHeartbeats 8000000 in
theorem c_X1_onPlate {l : Launch} {D : va_G} {cy : Nat → ClassId} {L : List Nat} {κ ln : Nat → Nat} {R : Nat → Nat → Option Nat} {I : Nat → Nat → Int32} {J : Nat → Nat → Int64} {ow : Nat → Nat × Nat} (W9 : ∀ a ∈ L, Shp L κ ln R ow a) {x : Nat} (hLx : x ∈ L) (hkx : κ x = 1) (a0 : Int32) (a1 : Int32) (ra0 : Rg 0 6 a0) (ra1 : Rg 0 5 a1) (hU : Iv L κ R ow I) : CtI l yX1_onPlate cX1_onPlate 3 (some .int) { frames := 0, cells := 0, slots := 0, locals := 0 } D cy L κ ln R I J [.ref x, .int a0, .int a1] (fun r I2 J2 => I = I2 ∧ J = J2 ∧ Rg (-2147483648) 2147483647 r) := by
  refine CtI.of (by decide +kernel) (Nat.le_of_ble_eq_true rfl) ?_
  intro p e s m below meth c B K
  have C := B.1
  obtain ⟨b_1, hb_1, hb_1L, hb_1k, hb_1n, hb_1o⟩ := shp_a (W9 x hLx) hkx 2 14 42 rfl (by decide)
  refine g_lo (is := [0, 1, 2]) (lo2 := [(0, .ref x), (1, .int a0), (2, .int a1)]) rfl ?_
  refine g_aload_n C 0 dX1_onPlate_0 rfl rfl ?_
  refine g_getR C K hLx hkx f_1_15 hb_1 dX1_onPlate_1 ?_
  refine g_iload_n C 1 dX1_onPlate_4 rfl rfl ?_
  refine g_bipush C (v := 6) dX1_onPlate_5 (by decide) ?_
  obtain ⟨x_2, hx_2, rx_2⟩ := ex_mulk 0 36 ra0 rc_6 (by decide) (by decide) (by decide) (by decide) (by decide)
  refine g_imul C (v := x_2) dX1_onPlate_7 hx_2 ?_
  refine g_iload_n C 2 dX1_onPlate_8 rfl rfl ?_
  obtain ⟨x_3, hx_3, rx_3, tx_3⟩ := ex_add 0 41 rx_2 ra1 (by decide) (by decide) (by decide) (by decide)
  refine g_iadd C (v := x_3) dX1_onPlate_9 hx_3 ?_
  obtain ⟨x_4, hx_4, rx_4⟩ := ex_get (I := I) (a := b_1) (j := x_3.toNatClampNeg) (lo := (-2147483648)) (hi := 2147483647) hU.1 hb_1L (ro_a hb_1k (by decide) hb_1o hkx rfl) (rfl)
  refine h_iald C K hb_1L hb_1k (v := x_4) (x_3.toNatClampNeg) (rfl) (ix_0 rx_3 (by decide)) (ix_lt rx_3 (by decide) hb_1n (by decide)) hx_4 dX1_onPlate_10 ?_
  exact g_zret (ty := .int) (r := x_4) B K rfl (rfl) ⟨rfl, rfl, rx_4⟩ dX1_onPlate_11
set_option maxRecDepth 100000 in
set_option maxHeartbeats 8000000 in
theorem c_X9_readPlate {l : Launch} {D : va_G} {cy : Nat → ClassId} {L : List Nat} {κ ln : Nat → Nat} {R : Nat → Nat → Option Nat} {I : Nat → Nat → Int32} {J : Nat → Nat → Int64} {ow : Nat → Nat × Nat} (W9 : ∀ a ∈ L, Shp L κ ln R ow a) {x : Nat} (hLx : x ∈ L) (hkx : κ x = 9) {a0 : Nat} (hLa0 : a0 ∈ L) (hka0 : κ a0 = 10) (hU : Iv L κ R ow I) : CtI l yX9_readPlate cX9_readPlate 5 (some .boolean) { frames := 2, cells := 0, slots := 0, locals := 44 } D cy L κ ln R I J [.ref x, .ref a0] (fun r I2 J2 => Iv L κ R ow I2 ∧ Fq L κ ow [1007, 1008, 1009, 1011, 1012, 16200, 16300] I I2 ∧ Fq L κ ow [1010] J J2 ∧ Rg 0 1 r) := by
  refine CtI.of (by decide +kernel) (Nat.le_of_ble_eq_true rfl) ?_
  intro p e s m below meth c B K
  have C := B.1
  have hF : Fq L κ ow [1007, 1008, 1009, 1011, 1012, 16200, 16300] I I := fq_rf
  have hG : Fq L κ ow [1010] J J := fq_rf
  obtain ⟨b_1, hb_1, hb_1L, hb_1k⟩ := shp_o (W9 x hLx) hkx 0 8 rfl (by decide)
  obtain ⟨b_2, hb_2, hb_2L, hb_2k⟩ := shp_o (W9 x hLx) hkx 1 1 rfl (by decide)
  refine g_lo (is := [0, 1]) (lo2 := [(0, .ref x), (1, .ref a0)]) rfl ?_
  have j_71 : ∀ (I_3 : Nat → Nat → Int32) (J_4 : Nat → Nat → Int64) (hU_5 : Iv L κ R ow I_3) (hF_6 : Fq L κ ow [1007, 1008, 1009, 1011, 1012, 16200, 16300] I I_3) (hG_7 : Fq L κ ow [1010] J J_4) (v_8 : Int32) (rv_8 : Rg 0 6 v_8) (nv_8_m1 : ¬ v_8 = (-1)) (v_9 : Int32) (rv_9 : Rg (-1) 5 v_9) (v_10 : Int32) (q_11 : I_3 a0 8 = v_10), WG p l e { frames := 2, cells := 0, slots := 0, locals := 44 } s m ([.ref x, .ref a0] : List Value).toArray below meth c 5 0 0 (MQ below (Qi_ D cy L κ ln R (fun r I2 J2 => Iv L κ R ow I2 ∧ Fq L κ ow [1007, 1008, 1009, 1011, 1012, 16200, 16300] I I2 ∧ Fq L κ ow [1010] J J2 ∧ Rg 0 1 r)) ([.ref x, .ref a0] : List Value).toArray s 0 0 (Al_ L)) D cy (Al_ L) s.heap L κ ln R I_3 J_4 71 [(0, .ref x), (1, .ref a0), (2, .int v_8), (3, .int v_9)] [] := by
    intro I_3 J_4 hU_5 hF_6 hG_7 v_8 rv_8 nv_8_m1 v_9 rv_9 v_10 q_11
    refine g_aload_n C 1 dX9_readPlate_71 rfl rfl ?_
    refine g_iload_n C 3 dX9_readPlate_72 rfl rfl ?_
    refine g_callVI C K (c_X10_takeName W9 hLa0 hka0 v_9 (rg_w rv_9 (by decide) (by decide)) hU_5) hLa0 hka0 (by decide) rfl v_9_95 rfl ⟨rfl, rfl⟩ ⟨Nat.le_of_ble_eq_true rfl, Nat.le_of_ble_eq_true rfl⟩ (Nat.le_of_ble_eq_true rfl) ⟨Nat.le_of_ble_eq_true rfl, Nat.le_of_ble_eq_true rfl⟩ dX9_readPlate_73 rfl (st := []) (fun x_12 I_13 J_14 h_15 => ?_)
    obtain ⟨hUI_13, hFI_13, hGJ_14, rx_12, ex_12⟩ := h_15
    have hF_16 := fq_tr hF_6 hFI_13 (by decide)
    have hG_17 := fq_tr hG_7 hGJ_14 (by decide)
    have r_18 := rg_or ex_12 (rv_9) (by decide) (by decide)
    refine g_iconst C (v := (-1)) dX9_readPlate_76 (by decide) ?_
    refine g_icmp_ne C (tgt := 82) dX9_readPlate_77 (by decide) (fun h_19 => ?_) (fun h_19 => ?_)
    · skip
      have n_20 : ¬ x_12 = (-1) := h_19
      have r_21 := ne_lo (lo := 0) n_20 r_18 rc_m1 rfl (by decide)
      have r_22 := eq_rg (Eq.symm (Or.resolve_left ex_12 (rg_nek r_21 rc_m1 (by decide)))) r_21
      refine g_aload_n C 1 dX9_readPlate_82 rfl rfl ?_
      refine g_iconst C (v := 1) dX9_readPlate_83 (by decide) ?_
      refine g_bipush C (v := 40) dX9_readPlate_84 (by decide) ?_
      refine g_callVI C K (c_X10_takeNumber W9 hLa0 hka0 1 40 (rg_w rc_1 (by decide) (by decide)) (rg_w rc_40 (by decide) (by decide)) hUI_13) hLa0 hka0 (by decide) rfl v_9_91 rfl ⟨rfl, rfl⟩ ⟨Nat.le_of_ble_eq_true rfl, Nat.le_of_ble_eq_true rfl⟩ (Nat.le_of_ble_eq_true rfl) ⟨Nat.le_of_ble_eq_true rfl, Nat.le_of_ble_eq_true rfl⟩ dX9_readPlate_86 rfl (st := []) (fun x_23 I_24 J_25 h_26 => ?_)
      obtain ⟨hUI_24, hFI_24, hGJ_25, rx_23⟩ := h_26
      have hF_27 := fq_tr hF_16 hFI_24 (by decide)
      have hG_28 := fq_tr hG_17 hGJ_25 (by decide)
      refine g_istore C dX9_readPlate_89 (by decide) (lo2 := [(4, .int x_23), (0, .ref x), (1, .ref a0), (2, .int v_8), (3, .int v_9)]) rfl ?_
      refine g_iload C 0 dX9_readPlate_91 rfl ?_
      refine g_iconst C (v := (-1)) dX9_readPlate_93 (by decide) ?_
      refine g_icmp_ne C (tgt := 99) dX9_readPlate_94 (by decide) (fun h_29 => ?_) (fun h_29 => ?_)
      · skip
        have n_30 : ¬ x_23 = (-1) := h_29
        refine g_aload_n C 1 dX9_readPlate_99 rfl rfl ?_
        refine g_getR C K hLx hkx f_9_23 hb_2 dX9_readPlate_100 ?_
        refine g_iload_n C 3 dX9_readPlate_103 rfl rfl ?_
        refine g_iload_n C 4 dX9_readPlate_104 rfl rfl ?_
        refine g_iload C 0 dX9_readPlate_105 rfl ?_
        refine g_callVV C K (c_X1_addToPlate W9 hb_2L hb_2k v_8 v_9 x_23 (rv_8) (r_22) hUI_24) hb_2L hb_2k (by decide) rfl v_9_128 rfl ⟨rfl, rfl⟩ ⟨Nat.le_of_ble_eq_true rfl, Nat.le_of_ble_eq_true rfl⟩ (Nat.le_of_ble_eq_true rfl) ⟨Nat.le_of_ble_eq_true rfl, Nat.le_of_ble_eq_true rfl⟩ dX9_readPlate_107 rfl (st := []) (fun I_32 J_33 h_34 => ?_)
        obtain ⟨hUI_32, hFI_32, hGJ_33⟩ := h_34
        have hF_35 := fq_tr hF_27 hFI_32 (by decide)
        have hG_36 := fq_tr hG_28 hGJ_33 (by decide)
        refine g_aload_n C 2 dX9_readPlate_110 rfl rfl ?_
        refine g_bipush C (v := 59) dX9_readPlate_111 (by decide) ?_
        refine g_callVI C K (c_X10_take W9 hLa0 hka0 59 (rg_w rc_59 (by decide) (by decide)) hUI_32) hLa0 hka0 (by decide) rfl v_9_110 rfl ⟨rfl, rfl⟩ ⟨Nat.le_of_ble_eq_true rfl, Nat.le_of_ble_eq_true rfl⟩ (Nat.le_of_ble_eq_true rfl) ⟨Nat.le_of_ble_eq_true rfl, Nat.le_of_ble_eq_true rfl⟩ dX9_readPlate_113 rfl (st := []) (fun x_37 I_38 J_39 h_40 => ?_)
        obtain ⟨hUI_38, hFI_38, hGJ_39, rx_37⟩ := h_40
        have hF_41 := fq_tr hF_35 hFI_38 (by decide)
        have hG_42 := fq_tr hG_36 hGJ_39 (by decide)
        exact g_zret (ty := .boolean) (r := x_37) B K rfl (nar_z (rx_37)) ⟨hUI_38, hF_41, hG_42, rx_37⟩ dX9_readPlate_116
      · skip
        have r_43 := (⟨(eq_rg (h_29) rc_m1).1, (eq_rg (h_29) rc_m1).2⟩ : Rg (-1) (-1) x_23)
        refine g_iconst C (v := 0) dX9_readPlate_97 (by decide) ?_
        exact g_zret (ty := .boolean) (r := 0) B K rfl (rfl) ⟨hUI_24, hF_27, hG_28, rg_w rc_0 (by decide) (by decide)⟩ dX9_readPlate_98
    · skip
      have r_44 := (⟨(r_18).1, (eq_rg (h_19) rc_m1).2⟩ : Rg (-1) (-1) x_12)
      refine g_iconst C (v := 0) dX9_readPlate_80 (by decide) ?_
      exact g_zret (ty := .boolean) (r := 0) B K rfl (rfl) ⟨hUI_13, hF_16, hG_17, rg_w rc_0 (by decide) (by decide)⟩ dX9_readPlate_81
  refine g_aload_n C 1 dX9_readPlate_0 rfl rfl ?_
  refine g_callVV C K (c_X10_advance W9 hLa0 hka0   hU) hLa0 hka0 (by decide) rfl v_9_82 rfl ⟨rfl, rfl⟩ ⟨Nat.le_of_ble_eq_true rfl, Nat.le_of_ble_eq_true rfl⟩ (Nat.le_of_ble_eq_true rfl) ⟨Nat.le_of_ble_eq_true rfl, Nat.le_of_ble_eq_true rfl⟩ dX9_readPlate_1 rfl (st := []) (fun I_46 J_47 h_48 => ?_)
  obtain ⟨hUI_46, hFI_46, hGJ_47⟩ := h_48
  have hF_49 := fq_tr hF hFI_46 (by decide)
  have hG_50 := fq_tr hG hGJ_47 (by decide)
  refine g_aload_n C 1 dX9_readPlate_4 rfl rfl ?_
  refine g_aload_n C 0 dX9_readPlate_5 rfl rfl ?_
  refine g_getR C K hLx hkx f_9_12 hb_1 dX9_readPlate_6 ?_
  refine g_aload_n C 1 dX9_readPlate_9 rfl rfl ?_
  obtain ⟨y_51, hy_51⟩ : ∃ z, J_47 a0 10 = z := ⟨_, rfl⟩
  refine g_getJ C K hLa0 hka0 f_9_71 (v := y_51) hy_51 dX9_readPlate_10 ?_
  refine g_callVI C K (c_X8_personNamed W9 hb_1L hb_1k y_51  hUI_46) hb_1L hb_1k (by decide) rfl v_9_75 rfl ⟨rfl, rfl⟩ ⟨Nat.le_of_ble_eq_true rfl, Nat.le_of_ble_eq_true rfl⟩ (Nat.le_of_ble_eq_true rfl) ⟨Nat.le_of_ble_eq_true rfl, Nat.le_of_ble_eq_true rfl⟩ dX9_readPlate_13 rfl (st := [.ref a0]) (fun x_52 I_53 J_54 h_55 => ?_)
  obtain ⟨rfl, rfl, rx_52⟩ := h_55
  refine g_callVI C K (c_X10_takeName W9 hLa0 hka0 x_52 (rx_52) hUI_46) hLa0 hka0 (by decide) rfl v_9_95 rfl ⟨rfl, rfl⟩ ⟨Nat.le_of_ble_eq_true rfl, Nat.le_of_ble_eq_true rfl⟩ (Nat.le_of_ble_eq_true rfl) ⟨Nat.le_of_ble_eq_true rfl, Nat.le_of_ble_eq_true rfl⟩ dX9_readPlate_16 rfl (st := []) (fun x_56 I_57 J_58 h_59 => ?_)
  obtain ⟨hUI_57, hFI_57, hGJ_58, rx_56, ex_56⟩ := h_59
  have hF_60 := fq_tr hF_49 hFI_57 (by decide)
  have hG_61 := fq_tr hG_50 hGJ_58 (by decide)
  have r_62 := rg_or ex_56 (rx_52) (by decide) (by decide)
  refine g_istore_n C dX9_readPlate_19 rfl (by decide) (lo2 := [(2, .int x_56), (0, .ref x), (1, .ref a0)]) rfl ?_
  refine g_iload_n C 0 dX9_readPlate_20 rfl rfl ?_
  refine g_iconst C (v := (-1)) dX9_readPlate_21 (by decide) ?_
  refine g_icmp_ne C (tgt := 27) dX9_readPlate_22 (by decide) (fun h_63 => ?_) (fun h_63 => ?_)
  · skip
    have n_64 : ¬ x_56 = (-1) := h_63
    have r_65 := ne_lo (lo := 0) n_64 r_62 rc_m1 rfl (by decide)
    have r_66 := eq_rg (Eq.symm (Or.resolve_left ex_56 (rg_nek r_65 rc_m1 (by decide)))) r_65
    refine g_aload_n C 1 dX9_readPlate_27 rfl rfl ?_
    refine g_getR C K hLx hkx f_9_12 hb_1 dX9_readPlate_28 ?_
    refine g_aload_n C 2 dX9_readPlate_31 rfl rfl ?_
    obtain ⟨y_67, hy_67⟩ : ∃ z, J_58 a0 10 = z := ⟨_, rfl⟩
    refine g_getJ C K hLa0 hka0 f_9_71 (v := y_67) hy_67 dX9_readPlate_32 ?_
    refine g_callVI C K (c_X8_dishNamed W9 hb_1L hb_1k y_67  hUI_57) hb_1L hb_1k (by decide) rfl v_9_79 rfl ⟨rfl, rfl⟩ ⟨Nat.le_of_ble_eq_true rfl, Nat.le_of_ble_eq_true rfl⟩ (Nat.le_of_ble_eq_true rfl) ⟨Nat.le_of_ble_eq_true rfl, Nat.le_of_ble_eq_true rfl⟩ dX9_readPlate_35 rfl (st := []) (fun x_68 I_69 J_70 h_71 => ?_)
    obtain ⟨rfl, rfl, rx_68⟩ := h_71
    refine g_istore_n C dX9_readPlate_38 rfl (by decide) (lo2 := [(3, .int x_68), (2, .int x_56), (0, .ref x), (1, .ref a0)]) rfl ?_
    refine g_aload_n C 3 dX9_readPlate_39 rfl rfl ?_
    obtain ⟨x_72, hx_72, rx_72⟩ := ex_get (I := I_57) (a := a0) (j := 8) (lo := (-2147483648)) (hi := 2147483647) hUI_57.1 hLa0 (ro_o hka0 (by decide)) rfl
    refine g_getI C K hLa0 hka0 f_9_44 (v := x_72) hx_72 dX9_readPlate_40 ?_
    refine g_bipush C (v := 100) dX9_readPlate_43 (by decide) ?_
    refine g_icmp_ne C (tgt := 71) dX9_readPlate_45 (by decide) (fun h_73 => ?_) (fun h_73 => ?_)
    · skip
      have n_74 : ¬ x_72 = 100 := h_73
      refine g_lo (is := [2, 3, 1, 0]) (lo2 := [(0, .ref x), (1, .ref a0), (2, .int x_56), (3, .int x_68)]) rfl ?_
      exact j_71 I_57 J_58 hUI_57 hF_60 hG_61 x_56 (r_65) (n_64) x_68 (rx_68) x_72 hx_72
    · skip
      have r_75 := (⟨(eq_rg (h_73) rc_100).1, (eq_rg (h_73) rc_100).2⟩ : Rg 100 100 x_72)
      refine g_iload_n C 0 dX9_readPlate_48 rfl rfl ?_
      refine g_iconst C (v := (-1)) dX9_readPlate_49 (by decide) ?_
      refine g_icmp_eq C (tgt := 71) dX9_readPlate_50 (by decide) (fun h_76 => ?_) (fun h_76 => ?_)
      · skip
        have r_77 := (⟨(rx_68).1, (eq_rg (h_76) rc_m1).2⟩ : Rg (-1) (-1) x_68)
        refine g_lo (is := [2, 3, 1, 0]) (lo2 := [(0, .ref x), (1, .ref a0), (2, .int x_56), (3, .int x_68)]) rfl ?_
        exact j_71 I_57 J_58 hUI_57 hF_60 hG_61 x_56 (r_65) (n_64) x_68 (rg_w r_77 (by decide) (by decide)) x_72 hx_72
      · skip
        have n_78 : ¬ x_68 = (-1) := h_76
        have r_79 := ne_lo (lo := 0) n_78 rx_68 rc_m1 rfl (by decide)
        refine g_aload_n C 2 dX9_readPlate_53 rfl rfl ?_
        refine g_getR C K hLx hkx f_9_23 hb_2 dX9_readPlate_54 ?_
        refine g_iload_n C 1 dX9_readPlate_57 rfl rfl ?_
        refine g_iload_n C 0 dX9_readPlate_58 rfl rfl ?_
        refine g_callVI C K (c_X1_onPlate W9 hb_2L hb_2k x_56 x_68 (r_65) (r_79) hUI_57) hb_2L hb_2k (by decide) rfl v_9_125 rfl ⟨rfl, rfl⟩ ⟨Nat.le_of_ble_eq_true rfl, Nat.le_of_ble_eq_true rfl⟩ (Nat.le_of_ble_eq_true rfl) ⟨Nat.le_of_ble_eq_true rfl, Nat.le_of_ble_eq_true rfl⟩ dX9_readPlate_59 rfl (st := []) (fun x_80 I_81 J_82 h_83 => ?_)
        obtain ⟨rfl, rfl, rx_80⟩ := h_83
        refine g_if_le C (tgt := 71) dX9_readPlate_62 (by decide) (fun h_84 => ?_) (fun h_84 => ?_)
        · skip
          have r_85 := le_l (h_84) rx_80 rc_0
          refine g_lo (is := [2, 3, 1, 0]) (lo2 := [(0, .ref x), (1, .ref a0), (2, .int x_56), (3, .int x_68)]) rfl ?_
          exact j_71 I_57 J_58 hUI_57 hF_60 hG_61 x_56 (r_65) (n_64) x_68 (rg_w r_79 (by decide) (by decide)) x_72 hx_72
        · skip
          have r_86 := lt_r (lo := 1) (nle h_84) rc_0 rx_80 (by decide)
          refine g_aload_n C 3 dX9_readPlate_65 rfl rfl ?_
          refine g_iconst C (v := 3) dX9_readPlate_66 (by decide) ?_
          refine g_callVI C K (c_X10_fail W9 hLa0 hka0 3 (rg_w rc_3 (by decide) (by decide)) hUI_57) hLa0 hka0 (by decide) rfl v_9_67 rfl ⟨rfl, rfl⟩ ⟨Nat.le_of_ble_eq_true rfl, Nat.le_of_ble_eq_true rfl⟩ (Nat.le_of_ble_eq_true rfl) ⟨Nat.le_of_ble_eq_true rfl, Nat.le_of_ble_eq_true rfl⟩ dX9_readPlate_67 rfl (st := []) (fun x_87 I_88 J_89 h_90 => ?_)
          obtain ⟨hUI_88, hFI_88, hGJ_89, rx_87⟩ := h_90
          have hF_91 := fq_tr hF_60 hFI_88 (by decide)
          have hG_92 := fq_tr hG_61 hGJ_89 (by decide)
          exact g_zret (ty := .boolean) (r := x_87) B K rfl (nar_z (rg_w rx_87 (by decide) (by decide))) ⟨hUI_88, hF_91, hG_92, rg_w rx_87 (by decide) (by decide)⟩ dX9_readPlate_70
  · skip
    have r_93 := (⟨(r_62).1, (eq_rg (h_63) rc_m1).2⟩ : Rg (-1) (-1) x_56)
    refine g_iconst C (v := 0) dX9_readPlate_25 (by decide) ?_
    exact g_zret (ty := .boolean) (r := 0) B K rfl (rfl) ⟨hUI_57, hF_60, hG_61, rg_w rc_0 (by decide) (by decide)⟩ dX9_readPlate_26
set_option maxRecDepth 100000 in
set_option maxHeartbeats 8000000 in
theorem c_X9_readLine {l : Launch} {D : va_G} {cy : Nat → ClassId} {L : List Nat} {κ ln : Nat → Nat} {R : Nat → Nat → Option Nat} {I : Nat → Nat → Int32} {J : Nat → Nat → Int64} {ow : Nat → Nat × Nat} (W9 : ∀ a ∈ L, Shp L κ ln R ow a) {x : Nat} (hLx : x ∈ L) (hkx : κ x = 9) {a0 : Nat} (hLa0 : a0 ∈ L) (hka0 : κ a0 = 10) (hU : Iv L κ R ow I) : CtI l yX9_readLine cX9_readLine 2 (some .boolean) { frames := 3, cells := 0, slots := 0, locals := 69 } D cy L κ ln R I J [.ref x, .ref a0] (fun r I2 J2 => Iv L κ R ow I2 ∧ Fq L κ ow [805, 806, 807, 808, 902, 903, 1007, 1008, 1009, 1011, 1012, 16100, 16200, 16300, 58100, 58200, 58400] I I2 ∧ Fq L κ ow [1010, 58000, 58300] J J2 ∧ Rg 0 1 r) := by
  refine CtI.of (by decide +kernel) (Nat.le_of_ble_eq_true rfl) ?_
  intro p e s m below meth c B K
  have C := B.1
  have hF : Fq L κ ow [805, 806, 807, 808, 902, 903, 1007, 1008, 1009, 1011, 1012, 16100, 16200, 16300, 58100, 58200, 58400] I I := fq_rf
  have hG : Fq L κ ow [1010, 58000, 58300] J J := fq_rf
  refine g_lo (is := [0, 1]) (lo2 := [(0, .ref x), (1, .ref a0)]) rfl ?_
  refine g_aload_n C 1 dX9_readLine_0 rfl rfl ?_
  obtain ⟨x_1, hx_1, rx_1⟩ := ex_get (I := I) (a := a0) (j := 8) (lo := (-2147483648)) (hi := 2147483647) hU.1 hLa0 (ro_o hka0 (by decide)) rfl
  refine g_getI C K hLa0 hka0 f_9_44 (v := x_1) hx_1 dX9_readLine_1 ?_
  by_cases c_2 : x_1.toInt = 0
  · skip
    have r_3 := rg_of (a := 0) (b := 0) 0 c_2 (by decide) (by decide)
    refine g_tableIn C (tgt := 40) dX9_readLine_4 (by omega) (by omega) (off := 36) (by rw [c_2]; rfl) (by decide) ?_
    refine g_aload_n C 0 dX9_readLine_40 rfl rfl ?_
    refine g_aload_n C 1 dX9_readLine_41 rfl rfl ?_
    refine g_callVI C K (c_X9_readPerson W9 hLx hkx hLa0 hka0  hU) hLx hkx (by decide) rfl v_9_52 rfl ⟨rfl, rfl⟩ ⟨Nat.le_of_ble_eq_true rfl, Nat.le_of_ble_eq_true rfl⟩ (Nat.le_of_ble_eq_true rfl) ⟨Nat.le_of_ble_eq_true rfl, Nat.le_of_ble_eq_true rfl⟩ dX9_readLine_42 rfl (st := []) (fun x_4 I_5 J_6 h_7 => ?_)
    obtain ⟨hUI_5, hFI_5, hGJ_6, rx_4⟩ := h_7
    have hF_8 := fq_tr hF hFI_5 (by decide)
    have hG_9 := fq_tr hG hGJ_6 (by decide)
    exact g_zret (ty := .boolean) (r := x_4) B K rfl (nar_z (rx_4)) ⟨hUI_5, hF_8, hG_9, rx_4⟩ dX9_readLine_45
  by_cases c_10 : x_1.toInt = 1
  · skip
    have r_11 := rg_of (a := 1) (b := 1) 1 c_10 (by decide) (by decide)
    refine g_tableIn C (tgt := 46) dX9_readLine_4 (by omega) (by omega) (off := 42) (by rw [c_10]; rfl) (by decide) ?_
    refine g_aload_n C 0 dX9_readLine_46 rfl rfl ?_
    refine g_aload_n C 1 dX9_readLine_47 rfl rfl ?_
    refine g_callVI C K (c_X9_readDish W9 hLx hkx hLa0 hka0  hU) hLx hkx (by decide) rfl v_9_55 rfl ⟨rfl, rfl⟩ ⟨Nat.le_of_ble_eq_true rfl, Nat.le_of_ble_eq_true rfl⟩ (Nat.le_of_ble_eq_true rfl) ⟨Nat.le_of_ble_eq_true rfl, Nat.le_of_ble_eq_true rfl⟩ dX9_readLine_48 rfl (st := []) (fun x_12 I_13 J_14 h_15 => ?_)
    obtain ⟨hUI_13, hFI_13, hGJ_14, rx_12⟩ := h_15
    have hF_16 := fq_tr hF hFI_13 (by decide)
    have hG_17 := fq_tr hG hGJ_14 (by decide)
    exact g_zret (ty := .boolean) (r := x_12) B K rfl (nar_z (rx_12)) ⟨hUI_13, hF_16, hG_17, rx_12⟩ dX9_readLine_51
  by_cases c_18 : x_1.toInt = 2
  · skip
    have r_19 := rg_of (a := 2) (b := 2) 2 c_18 (by decide) (by decide)
    refine g_tableIn C (tgt := 52) dX9_readLine_4 (by omega) (by omega) (off := 48) (by rw [c_18]; rfl) (by decide) ?_
    refine g_aload_n C 0 dX9_readLine_52 rfl rfl ?_
    refine g_aload_n C 1 dX9_readLine_53 rfl rfl ?_
    refine g_callVI C K (c_X9_readPlate W9 hLx hkx hLa0 hka0  hU) hLx hkx (by decide) rfl v_9_58 rfl ⟨rfl, rfl⟩ ⟨Nat.le_of_ble_eq_true rfl, Nat.le_of_ble_eq_true rfl⟩ (Nat.le_of_ble_eq_true rfl) ⟨Nat.le_of_ble_eq_true rfl, Nat.le_of_ble_eq_true rfl⟩ dX9_readLine_54 rfl (st := []) (fun x_20 I_21 J_22 h_23 => ?_)
    obtain ⟨hUI_21, hFI_21, hGJ_22, rx_20⟩ := h_23
    have hF_24 := fq_tr hF hFI_21 (by decide)
    have hG_25 := fq_tr hG hGJ_22 (by decide)
    exact g_zret (ty := .boolean) (r := x_20) B K rfl (nar_z (rx_20)) ⟨hUI_21, hF_24, hG_25, rx_20⟩ dX9_readLine_57
  by_cases c_26 : x_1.toInt = 3
  · skip
    have r_27 := rg_of (a := 3) (b := 3) 3 c_26 (by decide) (by decide)
    refine g_tableIn C (tgt := 58) dX9_readLine_4 (by omega) (by omega) (off := 54) (by rw [c_26]; rfl) (by decide) ?_
    refine g_aload_n C 0 dX9_readLine_58 rfl rfl ?_
    refine g_aload_n C 1 dX9_readLine_59 rfl rfl ?_
    refine g_callVI C K (c_X9_readLaw W9 hLx hkx hLa0 hka0  hU) hLx hkx (by decide) rfl v_9_61 rfl ⟨rfl, rfl⟩ ⟨Nat.le_of_ble_eq_true rfl, Nat.le_of_ble_eq_true rfl⟩ (Nat.le_of_ble_eq_true rfl) ⟨Nat.le_of_ble_eq_true rfl, Nat.le_of_ble_eq_true rfl⟩ dX9_readLine_60 rfl (st := []) (fun x_28 I_29 J_30 h_31 => ?_)
    obtain ⟨hUI_29, hFI_29, hGJ_30, rx_28⟩ := h_31
    have hF_32 := fq_tr hF hFI_29 (by decide)
    have hG_33 := fq_tr hG hGJ_30 (by decide)
    exact g_zret (ty := .boolean) (r := x_28) B K rfl (nar_z (rx_28)) ⟨hUI_29, hF_32, hG_33, rx_28⟩ dX9_readLine_63
  by_cases c_34 : x_1.toInt = 4
  · skip
    have r_35 := rg_of (a := 4) (b := 4) 4 c_34 (by decide) (by decide)
    refine g_tableIn C (tgt := 64) dX9_readLine_4 (by omega) (by omega) (off := 60) (by rw [c_34]; rfl) (by decide) ?_
    refine g_aload_n C 0 dX9_readLine_64 rfl rfl ?_
    refine g_aload_n C 1 dX9_readLine_65 rfl rfl ?_
    refine g_callVI C K (c_X9_readDogs W9 hLx hkx hLa0 hka0  hU) hLx hkx (by decide) rfl v_9_64 rfl ⟨rfl, rfl⟩ ⟨Nat.le_of_ble_eq_true rfl, Nat.le_of_ble_eq_true rfl⟩ (Nat.le_of_ble_eq_true rfl) ⟨Nat.le_of_ble_eq_true rfl, Nat.le_of_ble_eq_true rfl⟩ dX9_readLine_66 rfl (st := []) (fun x_36 I_37 J_38 h_39 => ?_)
    obtain ⟨hUI_37, hFI_37, hGJ_38, rx_36⟩ := h_39
    have hF_40 := fq_tr hF hFI_37 (by decide)
    have hG_41 := fq_tr hG hGJ_38 (by decide)
    exact g_zret (ty := .boolean) (r := x_36) B K rfl (nar_z (rx_36)) ⟨hUI_37, hF_40, hG_41, rx_36⟩ dX9_readLine_69
  obtain ⟨q_421, q_422⟩ := rx_1
  refine g_tableOut C (tgt := 70) dX9_readLine_4 (by omega) (by decide) ?_
  refine g_aload_n C 1 dX9_readLine_70 rfl rfl ?_
  refine g_iconst C (v := 1) dX9_readLine_71 (by decide) ?_
  refine g_callVI C K (c_X10_fail W9 hLa0 hka0 1 (rg_w rc_1 (by decide) (by decide)) hU) hLa0 hka0 (by decide) rfl v_9_67 rfl ⟨rfl, rfl⟩ ⟨Nat.le_of_ble_eq_true rfl, Nat.le_of_ble_eq_true rfl⟩ (Nat.le_of_ble_eq_true rfl) ⟨Nat.le_of_ble_eq_true rfl, Nat.le_of_ble_eq_true rfl⟩ dX9_readLine_72 rfl (st := []) (fun x_43 I_44 J_45 h_46 => ?_)
  obtain ⟨hUI_44, hFI_44, hGJ_45, rx_43⟩ := h_46
  have hF_47 := fq_tr hF hFI_44 (by decide)
  have hG_48 := fq_tr hG hGJ_45 (by decide)
  exact g_zret (ty := .boolean) (r := x_43) B K rfl (nar_z (rg_w rx_43 (by decide) (by decide))) ⟨hUI_44, hF_47, hG_48, rg_w rx_43 (by decide) (by decide)⟩ dX9_readLine_75
set_option maxRecDepth 100000 in
set_option maxHeartbeats 8000000 in
theorem c_X9_readFrom {l : Launch} {D : va_G} {cy : Nat → ClassId} {L : List Nat} {κ ln : Nat → Nat} {R : Nat → Nat → Option Nat} {I : Nat → Nat → Int32} {J : Nat → Nat → Int64} {ow : Nat → Nat × Nat} (W9 : ∀ a ∈ L, Shp L κ ln R ow a) {x : Nat} (hLx : x ∈ L) (hkx : κ x = 9) {a0 : Nat} (hLa0 : a0 ∈ L) (hka0 : κ a0 = 10) (hU : Iv L κ R ow I) : CtI l yX9_readFrom cX9_readFrom 3 (some .int) { frames := 4, cells := 0, slots := 0, locals := 90 } D cy L κ ln R I J [.ref x, .ref a0] (fun r I2 J2 => Iv L κ R ow I2 ∧ Fq L κ ow [107, 108, 109, 110, 111, 112, 805, 806, 807, 808, 902, 903, 1006, 1007, 1008, 1009, 1011, 1012, 16100, 16200, 16300, 16400, 16500, 16600, 58100, 58200, 58400, 70200, 70300] I I2 ∧ Fq L κ ow [1010, 58000, 58300, 70400] J J2 ∧ Rg 0 900 r) := by
  refine CtI.of (by decide +kernel) (Nat.le_of_ble_eq_true rfl) ?_
  intro p e s m below meth c B K
  have C := B.1
  have hF : Fq L κ ow [107, 108, 109, 110, 111, 112, 805, 806, 807, 808, 902, 903, 1006, 1007, 1008, 1009, 1011, 1012, 16100, 16200, 16300, 16400, 16500, 16600, 58100, 58200, 58400, 70200, 70300] I I := fq_rf
  have hG : Fq L κ ow [1010, 58000, 58300, 70400] J J := fq_rf
  obtain ⟨b_1, hb_1, hb_1L, hb_1k⟩ := shp_o (W9 x hLx) hkx 0 8 rfl (by decide)
  obtain ⟨b_2, hb_2, hb_2L, hb_2k⟩ := shp_o (W9 x hLx) hkx 1 1 rfl (by decide)
  refine g_lo (is := [0, 1]) (lo2 := [(0, .ref x), (1, .ref a0)]) rfl ?_
  have l_33 : ∀ (n_33 : Nat) (I_3 : Nat → Nat → Int32) (J_4 : Nat → Nat → Int64) (hU_5 : Iv L κ R ow I_3) (hF_6 : Fq L κ ow [107, 108, 109, 110, 111, 112, 805, 806, 807, 808, 902, 903, 1006, 1007, 1008, 1009, 1011, 1012, 16100, 16200, 16300, 16400, 16500, 16600, 58100, 58200, 58400, 70200, 70300] I I_3) (hG_7 : Fq L κ ow [1010, 58000, 58300, 70400] J J_4) (v_8 : Int32) (rv_8 : Rg 0 900 v_8) (hm_9 : 900 < (v_8 : Int32).toInt + (n_33 : Int)), WG p l e { frames := 4, cells := 0, slots := 0, locals := 90 } s m ([.ref x, .ref a0] : List Value).toArray below meth c 3 0 0 (MQ below (Qi_ D cy L κ ln R (fun r I2 J2 => Iv L κ R ow I2 ∧ Fq L κ ow [107, 108, 109, 110, 111, 112, 805, 806, 807, 808, 902, 903, 1006, 1007, 1008, 1009, 1011, 1012, 16100, 16200, 16300, 16400, 16500, 16600, 58100, 58200, 58400, 70200, 70300] I I2 ∧ Fq L κ ow [1010, 58000, 58300, 70400] J J2 ∧ Rg 0 900 r)) ([.ref x, .ref a0] : List Value).toArray s 0 0 (Al_ L)) D cy (Al_ L) s.heap L κ ln R I_3 J_4 33 [(0, .ref x), (1, .ref a0), (2, .int v_8)] [] := by
    intro n_33
    induction n_33 with
    | zero =>
      intro I_3 J_4 hU_5 hF_6 hG_7 v_8 rv_8 hm_9
      exact ms_0 rv_8 hm_9
    | succ n_33 ih_33 =>
      intro I_3 J_4 hU_5 hF_6 hG_7 v_8 rv_8 hm_9
      refine g_iload_n C 2 dX9_readFrom_33 rfl rfl ?_
      refine g_sipush C (v := 900) dX9_readFrom_34 (by decide) ?_
      refine g_icmp_ge C (tgt := 63) dX9_readFrom_37 (by decide) (fun h_10 => ?_) (fun h_10 => ?_)
      · skip
        have r_11 := le_r (h_10) rc_900 rv_8
        refine g_iload_n C 2 dX9_readFrom_63 rfl rfl ?_
        exact g_zret (ty := .int) (r := v_8) B K rfl (rfl) ⟨hU_5, hF_6, hG_7, rg_w r_11 (by decide) (by decide)⟩ dX9_readFrom_64
      · skip
        have r_12 := lt_l (hi := 899) (nle h_10) rv_8 rc_900 (by decide)
        refine g_aload_n C 1 dX9_readFrom_40 rfl rfl ?_
        obtain ⟨x_13, hx_13, rx_13⟩ := ex_get (I := I_3) (a := a0) (j := 8) (lo := (-2147483648)) (hi := 2147483647) hU_5.1 hLa0 (ro_o hka0 (by decide)) rfl
        refine g_getI C K hLa0 hka0 f_9_44 (v := x_13) hx_13 dX9_readFrom_41 ?_
        refine g_bipush C (v := 102) dX9_readFrom_44 (by decide) ?_
        refine g_icmp_eq C (tgt := 63) dX9_readFrom_46 (by decide) (fun h_14 => ?_) (fun h_14 => ?_)
        · skip
          have r_15 := (⟨(eq_rg (h_14) rc_102).1, (eq_rg (h_14) rc_102).2⟩ : Rg 102 102 x_13)
          refine g_iload_n C 2 dX9_readFrom_63 rfl rfl ?_
          exact g_zret (ty := .int) (r := v_8) B K rfl (rfl) ⟨hU_5, hF_6, hG_7, rg_w r_12 (by decide) (by decide)⟩ dX9_readFrom_64
        · skip
          have n_16 : ¬ x_13 = 102 := h_14
          refine g_aload_n C 0 dX9_readFrom_49 rfl rfl ?_
          refine g_aload_n C 1 dX9_readFrom_50 rfl rfl ?_
          refine g_callVI C K (c_X9_readLine W9 hLx hkx hLa0 hka0  hU_5) hLx hkx (by decide) rfl v_9_48 rfl ⟨rfl, rfl⟩ ⟨Nat.le_of_ble_eq_true rfl, Nat.le_of_ble_eq_true rfl⟩ (Nat.le_of_ble_eq_true rfl) ⟨Nat.le_of_ble_eq_true rfl, Nat.le_of_ble_eq_true rfl⟩ dX9_readFrom_51 rfl (st := []) (fun x_17 I_18 J_19 h_20 => ?_)
          obtain ⟨hUI_18, hFI_18, hGJ_19, rx_17⟩ := h_20
          have hF_21 := fq_tr hF_6 hFI_18 (by decide)
          have hG_22 := fq_tr hG_7 hGJ_19 (by decide)
          refine g_if_eq C (tgt := 63) dX9_readFrom_54 (by decide) (fun h_23 => ?_) (fun h_23 => ?_)
          · skip
            have r_24 := (⟨(rx_17).1, (eq_rg (h_23) rc_0).2⟩ : Rg 0 0 x_17)
            refine g_iload_n C 2 dX9_readFrom_63 rfl rfl ?_
            exact g_zret (ty := .int) (r := v_8) B K rfl (rfl) ⟨hUI_18, hF_21, hG_22, rg_w r_12 (by decide) (by decide)⟩ dX9_readFrom_64
          · skip
            have n_25 : ¬ x_17 = 0 := h_23
            have r_26 := ne_lo (lo := 1) n_25 rx_17 rc_0 rfl (by decide)
            obtain ⟨x_27, hx_27, rx_27, tx_27⟩ := ex_add (y := 1) 1 900 r_12 rc_1 (by decide) (by decide) (by decide) (by decide)
            refine g_iinc C dX9_readFrom_57 (k := 2) (v := x_27) rfl hx_27 (by decide) (lo2 := [(2, .int x_27), (0, .ref x), (1, .ref a0)]) rfl ?_
            refine g_goto C (tgt := 33) dX9_readFrom_60 (by decide) ?_
            refine g_lo (is := [1, 2, 0]) (lo2 := [(0, .ref x), (1, .ref a0), (2, .int x_27)]) rfl ?_
            exact ih_33 I_18 J_19 hUI_18 hF_21 hG_22 x_27 (rg_w rx_27 (by decide) (by decide)) (ms_1 hm_9 (ti_k tx_27 rc_1) (by decide))
  refine g_aload_n C 0 dX9_readFrom_0 rfl rfl ?_
  refine g_getR C K hLx hkx f_9_12 hb_1 dX9_readFrom_1 ?_
  refine g_callVV C K (c_X8_forget W9 hb_1L hb_1k   hU) hb_1L hb_1k (by decide) rfl v_9_34 rfl ⟨rfl, rfl⟩ ⟨Nat.le_of_ble_eq_true rfl, Nat.le_of_ble_eq_true rfl⟩ (Nat.le_of_ble_eq_true rfl) ⟨Nat.le_of_ble_eq_true rfl, Nat.le_of_ble_eq_true rfl⟩ dX9_readFrom_4 rfl (st := []) (fun I_29 J_30 h_31 => ?_)
  obtain ⟨hUI_29, hFI_29, hGJ_30⟩ := h_31
  have hF_32 := fq_tr hF hFI_29 (by decide)
  have hG_33 := fq_tr hG hGJ_30 (by decide)
  refine g_aload_n C 0 dX9_readFrom_7 rfl rfl ?_
  refine g_getR C K hLx hkx f_9_23 hb_2 dX9_readFrom_8 ?_
  refine g_callVV C K (c_X1_forget W9 hb_2L hb_2k   hUI_29) hb_2L hb_2k (by decide) rfl v_9_37 rfl ⟨rfl, rfl⟩ ⟨Nat.le_of_ble_eq_true rfl, Nat.le_of_ble_eq_true rfl⟩ (Nat.le_of_ble_eq_true rfl) ⟨Nat.le_of_ble_eq_true rfl, Nat.le_of_ble_eq_true rfl⟩ dX9_readFrom_11 rfl (st := []) (fun I_35 J_36 h_37 => ?_)
  obtain ⟨hUI_35, hFI_35, hGJ_36⟩ := h_37
  have hF_38 := fq_tr hF_32 hFI_35 (by decide)
  have hG_39 := fq_tr hG_33 hGJ_36 (by decide)
  refine g_aload_n C 0 dX9_readFrom_14 rfl rfl ?_
  refine g_iconst C (v := 0) dX9_readFrom_15 (by decide) ?_
  refine h_putZ C K hLx hkx f_9_27 p_9_2 (rg_bool (rg_w rc_0 (by decide) (by decide))) dX9_readFrom_16 (fun I_40 hI_40 => ?_)
  have hU_41 := iv_put W9 hUI_35 hI_40 (ro_o hkx (by decide)) (lo := 0) (hi := 1) (rfl) (rg_w rc_0 (by decide) (by decide)) rfl
  have hF_42 := fq_puto hF_38 hI_40 hkx (by decide) (by decide)
  refine g_aload_n C 0 dX9_readFrom_19 rfl rfl ?_
  refine g_iconst C (v := 0) dX9_readFrom_20 (by decide) ?_
  refine h_putZ C K hLx hkx f_9_31 p_9_3 (rg_bool (rg_w rc_0 (by decide) (by decide))) dX9_readFrom_21 (fun I_43 hI_43 => ?_)
  have hU_44 := iv_put W9 hU_41 hI_43 (ro_o hkx (by decide)) (lo := 0) (hi := 1) (rfl) (rg_w rc_0 (by decide) (by decide)) rfl
  have hF_45 := fq_puto hF_42 hI_43 hkx (by decide) (by decide)
  refine g_aload_n C 1 dX9_readFrom_24 rfl rfl ?_
  refine g_sipush C (v := 900) dX9_readFrom_25 (by decide) ?_
  refine g_callVV C K (c_X10_begin W9 hLa0 hka0 900 (rg_w rc_900 (by decide) (by decide)) hU_44) hLa0 hka0 (by decide) rfl v_9_38 rfl ⟨rfl, rfl⟩ ⟨Nat.le_of_ble_eq_true rfl, Nat.le_of_ble_eq_true rfl⟩ (Nat.le_of_ble_eq_true rfl) ⟨Nat.le_of_ble_eq_true rfl, Nat.le_of_ble_eq_true rfl⟩ dX9_readFrom_28 rfl (st := []) (fun I_47 J_48 h_49 => ?_)
  obtain ⟨hUI_47, hFI_47, hGJ_48⟩ := h_49
  have hF_50 := fq_tr hF_45 hFI_47 (by decide)
  have hG_51 := fq_tr hG_39 hGJ_48 (by decide)
  refine g_iconst C (v := 0) dX9_readFrom_31 (by decide) ?_
  refine g_istore_n C dX9_readFrom_32 rfl (by decide) (lo2 := [(2, .int 0), (0, .ref x), (1, .ref a0)]) rfl ?_
  refine g_lo (is := [1, 2, 0]) (lo2 := [(0, .ref x), (1, .ref a0), (2, .int 0)]) rfl ?_
  exact l_33 901 I_47 J_48 hUI_47 hF_50 hG_51 0 (rg_w rc_0 (by decide) (by decide)) (ms_s (a := 0) (b := 900) (N := 901) (rg_w rc_0 (by decide) (by decide)) (by decide))
set_option maxRecDepth 100000 in
set_option maxHeartbeats 8000000 in
theorem c_X11_table {l : Launch} {D : va_G} {cy : Nat → ClassId} {L : List Nat} {κ ln : Nat → Nat} {R : Nat → Nat → Option Nat} {I : Nat → Nat → Int32} {J : Nat → Nat → Int64} {ow : Nat → Nat × Nat} (W9 : ∀ a ∈ L, Shp L κ ln R ow a) {x : Nat} (hLx : x ∈ L) (hkx : κ x = 11) (hU : Iv L κ R ow I) : CtI l yX11_table cX11_table 2 (some .int) { frames := 5, cells := 0, slots := 0, locals := 112 } D cy L κ ln R I J [.ref x] (fun r I2 J2 => Iv L κ R ow I2 ∧ Fq L κ ow [107, 108, 109, 110, 111, 112, 501, 704, 705, 805, 806, 807, 808, 902, 903, 1005, 1006, 1007, 1008, 1009, 1011, 1012, 16100, 16200, 16300, 16400, 16500, 16600, 58100, 58200, 58400, 70200, 70300] I I2 ∧ Fq L κ ow [1010, 58000, 58300, 70400] J J2 ∧ Rg (-2147483648) 2147483647 r) := by
  refine CtI.of (by decide +kernel) (Nat.le_of_ble_eq_true rfl) ?_
  intro p e s m below meth c B K
  have C := B.1
  have hF : Fq L κ ow [107, 108, 109, 110, 111, 112, 501, 704, 705, 805, 806, 807, 808, 902, 903, 1005, 1006, 1007, 1008, 1009, 1011, 1012, 16100, 16200, 16300, 16400, 16500, 16600, 58100, 58200, 58400, 70200, 70300] I I := fq_rf
  have hG : Fq L κ ow [1010, 58000, 58300, 70400] J J := fq_rf
  obtain ⟨b_1, hb_1, hb_1L, hb_1k⟩ := shp_o (W9 x hLx) hkx 4 5 rfl (by decide)
  obtain ⟨b_2, hb_2, hb_2L, hb_2k⟩ := shp_o (W9 x hLx) hkx 7 7 rfl (by decide)
  obtain ⟨b_3, hb_3, hb_3L, hb_3k⟩ := shp_o (W9 x hLx) hkx 5 9 rfl (by decide)
  obtain ⟨b_4, hb_4, hb_4L, hb_4k⟩ := shp_o (W9 x hLx) hkx 0 10 rfl (by decide)
  obtain ⟨b_5, hb_5, hb_5L, hb_5k⟩ := shp_o (W9 x hLx) hkx 2 1 rfl (by decide)
  obtain ⟨b_6, hb_6, hb_6L, hb_6k⟩ := shp_o (W9 x hLx) hkx 1 8 rfl (by decide)
  obtain ⟨b_7, hb_7, hb_7L, hb_7k⟩ := shp_o (W9 b_3 hb_3L) hb_3k 1 1 rfl (by decide)
  obtain ⟨b_8, hb_8, hb_8L, hb_8k⟩ := shp_o (W9 b_3 hb_3L) hb_3k 0 8 rfl (by decide)
  refine g_lo (is := [0]) (lo2 := [(0, .ref x)]) rfl ?_
  refine g_aload_n C 0 dX11_table_0 rfl rfl ?_
  refine g_getR C K hLx hkx f_11_45 hb_3 dX11_table_1 ?_
  refine g_aload_n C 0 dX11_table_4 rfl rfl ?_
  refine g_getR C K hLx hkx f_11_10 hb_4 dX11_table_5 ?_
  refine g_callVI C K (c_X9_readFrom W9 hb_3L hb_3k hb_4L hb_4k  hU) hb_3L hb_3k (by decide) rfl v_11_109 rfl ⟨rfl, rfl⟩ ⟨Nat.le_of_ble_eq_true rfl, Nat.le_of_ble_eq_true rfl⟩ (Nat.le_of_ble_eq_true rfl) ⟨Nat.le_of_ble_eq_true rfl, Nat.le_of_ble_eq_true rfl⟩ dX11_table_8 rfl (st := []) (fun x_9 I_10 J_11 h_12 => ?_)
  obtain ⟨hUI_10, hFI_10, hGJ_11, rx_9⟩ := h_12
  have hF_13 := fq_tr hF hFI_10 (by decide)
  have hG_14 := fq_tr hG hGJ_11 (by decide)
  refine g_istore_n C dX11_table_11 rfl (by decide) (lo2 := [(1, .int x_9), (0, .ref x)]) rfl ?_
  refine g_aload_n C 1 dX11_table_12 rfl rfl ?_
  refine g_getR C K hLx hkx f_11_10 hb_4 dX11_table_13 ?_
  refine g_iconst C (v := 0) dX11_table_16 (by decide) ?_
  refine h_putI C K hb_4L hb_4k f_11_102 p_10_5 dX11_table_17 (fun I_15 hI_15 => ?_)
  have hU_16 := iv_put W9 hUI_10 hI_15 (ro_o hb_4k (by decide)) (lo := 0) (hi := 940) (rfl) (rg_w rc_0 (by decide) (by decide)) rfl
  have hF_17 := fq_puto hF_13 hI_15 hb_4k (by decide) (by decide)
  refine g_aload_n C 1 dX11_table_20 rfl rfl ?_
  refine g_getR C K hLx hkx f_11_10 hb_4 dX11_table_21 ?_
  obtain ⟨x_18, hx_18, rx_18⟩ := ex_get (I := I_15) (a := b_4) (j := 11) (lo := (-2147483648)) (hi := 2147483647) hU_16.1 hb_4L (ro_o hb_4k (by decide)) rfl
  refine g_getI C K hb_4L hb_4k f_11_113 (v := x_18) hx_18 dX11_table_24 ?_
  refine g_if_eq C (tgt := 40) dX11_table_27 (by decide) (fun h_19 => ?_) (fun h_19 => ?_)
  · skip
    have r_20 := (⟨(eq_rg (h_19) rc_0).1, (eq_rg (h_19) rc_0).2⟩ : Rg 0 0 x_18)
    refine g_aload_n C 1 dX11_table_40 rfl rfl ?_
    refine g_getR C K hLx hkx f_11_19 hb_6 dX11_table_41 ?_
    refine g_aload_n C 1 dX11_table_44 rfl rfl ?_
    refine g_getR C K hLx hkx f_11_45 hb_3 dX11_table_45 ?_
    refine g_getR C K hb_3L hb_3k f_11_119 hb_8 dX11_table_48 ?_
    refine g_callVV C K (c_X8_become W9 hb_6L hb_6k hb_8L hb_8k  hU_16) hb_6L hb_6k (by decide) rfl v_11_120 rfl ⟨rfl, rfl⟩ ⟨Nat.le_of_ble_eq_true rfl, Nat.le_of_ble_eq_true rfl⟩ (Nat.le_of_ble_eq_true rfl) ⟨Nat.le_of_ble_eq_true rfl, Nat.le_of_ble_eq_true rfl⟩ dX11_table_51 rfl (st := []) (fun I_22 J_23 h_24 => ?_)
    obtain ⟨hUI_22, hFI_22, hGJ_23⟩ := h_24
    have hF_25 := fq_tr hF_17 hFI_22 (by decide)
    have hG_26 := fq_tr hG_14 hGJ_23 (by decide)
    refine g_aload_n C 1 dX11_table_54 rfl rfl ?_
    refine g_getR C K hLx hkx f_11_28 hb_5 dX11_table_55 ?_
    refine g_aload_n C 1 dX11_table_58 rfl rfl ?_
    refine g_getR C K hLx hkx f_11_45 hb_3 dX11_table_59 ?_
    refine g_getR C K hb_3L hb_3k f_11_123 hb_7 dX11_table_62 ?_
    refine g_callVV C K (c_X1_become W9 hb_5L hb_5k hb_7L hb_7k  hUI_22) hb_5L hb_5k (by decide) rfl v_11_126 rfl ⟨rfl, rfl⟩ ⟨Nat.le_of_ble_eq_true rfl, Nat.le_of_ble_eq_true rfl⟩ (Nat.le_of_ble_eq_true rfl) ⟨Nat.le_of_ble_eq_true rfl, Nat.le_of_ble_eq_true rfl⟩ dX11_table_65 rfl (st := []) (fun I_28 J_29 h_30 => ?_)
    obtain ⟨hUI_28, hFI_28, hGJ_29⟩ := h_30
    have hF_31 := fq_tr hF_25 hFI_28 (by decide)
    have hG_32 := fq_tr hG_26 hGJ_29 (by decide)
    refine g_aload_n C 1 dX11_table_68 rfl rfl ?_
    refine g_getR C K hLx hkx f_11_59 hb_2 dX11_table_69 ?_
    refine g_callVV C K (c_X7_forget W9 hb_2L hb_2k   hUI_28) hb_2L hb_2k (by decide) rfl v_11_129 rfl ⟨rfl, rfl⟩ ⟨Nat.le_of_ble_eq_true rfl, Nat.le_of_ble_eq_true rfl⟩ (Nat.le_of_ble_eq_true rfl) ⟨Nat.le_of_ble_eq_true rfl, Nat.le_of_ble_eq_true rfl⟩ dX11_table_72 rfl (st := []) (fun I_34 J_35 h_36 => ?_)
    obtain ⟨hUI_34, hFI_34, hGJ_35⟩ := h_36
    have hF_37 := fq_tr hF_31 hFI_34 (by decide)
    have hG_38 := fq_tr hG_32 hGJ_35 (by decide)
    refine g_aload_n C 1 dX11_table_75 rfl rfl ?_
    refine g_getR C K hLx hkx f_11_38 hb_1 dX11_table_76 ?_
    refine g_callVV C K (c_X5_forget W9 hb_1L hb_1k   hUI_34) hb_1L hb_1k (by decide) rfl v_11_132 rfl ⟨rfl, rfl⟩ ⟨Nat.le_of_ble_eq_true rfl, Nat.le_of_ble_eq_true rfl⟩ (Nat.le_of_ble_eq_true rfl) ⟨Nat.le_of_ble_eq_true rfl, Nat.le_of_ble_eq_true rfl⟩ dX11_table_79 rfl (st := []) (fun I_40 J_41 h_42 => ?_)
    obtain ⟨hUI_40, hFI_40, hGJ_41⟩ := h_42
    have hF_43 := fq_tr hF_37 hFI_40 (by decide)
    have hG_44 := fq_tr hG_38 hGJ_41 (by decide)
    refine g_iload_n C 0 dX11_table_82 rfl rfl ?_
    exact g_zret (ty := .int) (r := x_9) B K rfl (rfl) ⟨hUI_40, hF_43, hG_44, rg_all _⟩ dX11_table_83
  · skip
    have n_45 : ¬ x_18 = 0 := h_19
    refine g_iconst C (v := (-1)) dX11_table_30 (by decide) ?_
    refine g_aload_n C 1 dX11_table_31 rfl rfl ?_
    refine g_getR C K hLx hkx f_11_10 hb_4 dX11_table_32 ?_
    obtain ⟨x_46, hx_46, rx_46⟩ := ex_get (I := I_15) (a := b_4) (j := 12) (lo := (-2147483648)) (hi := 2147483647) hU_16.1 hb_4L (ro_o hb_4k (by decide)) rfl
    refine g_getI C K hb_4L hb_4k f_11_116 (v := x_46) hx_46 dX11_table_35 ?_
    obtain ⟨x_47, hx_47, rx_47, tx_47⟩ := ex_sub (-2147483648) 2147483647 rc_m1 rx_46 (by decide) (by decide) (by decide) (by decide)
    refine g_isub C (v := x_47) dX11_table_38 hx_47 ?_
    exact g_zret (ty := .int) (r := x_47) B K rfl (rfl) ⟨hU_16, hF_17, hG_14, rx_47⟩ dX11_table_39
set_option maxRecDepth 100000 in
set_option maxHeartbeats 8000000 in
theorem c_X11_fault {l : Launch} {D : va_G} {cy : Nat → ClassId} {L : List Nat} {κ ln : Nat → Nat} {R : Nat → Nat → Option Nat} {I : Nat → Nat → Int32} {J : Nat → Nat → Int64} {ow : Nat → Nat × Nat} (W9 : ∀ a ∈ L, Shp L κ ln R ow a) {x : Nat} (hLx : x ∈ L) (hkx : κ x = 11) (hU : Iv L κ R ow I) : CtI l yX11_fault cX11_fault 1 (some .int) { frames := 0, cells := 0, slots := 0, locals := 0 } D cy L κ ln R I J [.ref x] (fun r I2 J2 => I = I2 ∧ J = J2 ∧ Rg (-2147483648) 2147483647 r) := by
  refine CtI.of (by decide +kernel) (Nat.le_of_ble_eq_true rfl) ?_
  intro p e s m below meth c B K
  have C := B.1
  obtain ⟨b_1, hb_1, hb_1L, hb_1k⟩ := shp_o (W9 x hLx) hkx 0 10 rfl (by decide)
  refine g_lo (is := [0]) (lo2 := [(0, .ref x)]) rfl ?_
  refine g_aload_n C 0 dX11_fault_0 rfl rfl ?_
  refine g_getR C K hLx hkx f_11_10 hb_1 dX11_fault_1 ?_
  obtain ⟨x_2, hx_2, rx_2⟩ := ex_get (I := I) (a := b_1) (j := 11) (lo := (-2147483648)) (hi := 2147483647) hU.1 hb_1L (ro_o hb_1k (by decide)) rfl
  refine g_getI C K hb_1L hb_1k f_11_113 (v := x_2) hx_2 dX11_fault_4 ?_
  exact g_zret (ty := .int) (r := x_2) B K rfl (rfl) ⟨rfl, rfl, rx_2⟩ dX11_fault_7
set_option maxRecDepth 100000 in
set_option maxHeartbeats 8000000 in
theorem c_X8_hasDish {l : Launch} {D : va_G} {cy : Nat → ClassId} {L : List Nat} {κ ln : Nat → Nat} {R : Nat → Nat → Option Nat} {I : Nat → Nat → Int32} {J : Nat → Nat → Int64} {ow : Nat → Nat × Nat} (W9 : ∀ a ∈ L, Shp L κ ln R ow a) {x : Nat} (hLx : x ∈ L) (hkx : κ x = 8) (a0 : Int32) (hU : Iv L κ R ow I) : CtI l yX8_hasDish cX8_hasDish 2 (some .boolean) { frames := 0, cells := 0, slots := 0, locals := 0 } D cy L κ ln R I J [.ref x, .int a0] (fun r I2 J2 => I = I2 ∧ J = J2 ∧ Rg 0 1 r ∧ (¬ r = 0 → Rg 0 5 a0)) := by
  refine CtI.of (by decide +kernel) (Nat.le_of_ble_eq_true rfl) ?_
  intro p e s m below meth c B K
  have C := B.1
  refine g_lo (is := [0, 1]) (lo2 := [(0, .ref x), (1, .int a0)]) rfl ?_
  refine g_iload_n C 1 dX8_hasDish_0 rfl rfl ?_
  refine g_if_lt C (tgt := 16) dX8_hasDish_1 (by decide) (fun h_1 => ?_) (fun h_1 => ?_)
  · skip
    have r_2 := lt_l (hi := (-1)) (h_1) (rg_all a0) rc_0 (by decide)
    refine g_iconst C (v := 0) dX8_hasDish_16 (by decide) ?_
    exact g_zret (ty := .boolean) (r := 0) B K rfl (rfl) ⟨rfl, rfl, rg_w rc_0 (by decide) (by decide), (fun q => absurd rfl q)⟩ dX8_hasDish_17
  · skip
    have r_3 := le_r (nlt h_1) rc_0 (rg_all a0)
    refine g_iload_n C 1 dX8_hasDish_4 rfl rfl ?_
    refine g_aload_n C 0 dX8_hasDish_5 rfl rfl ?_
    obtain ⟨x_4, hx_4, rx_4⟩ := ex_get (I := I) (a := x) (j := 6) (lo := 0) (hi := 6) hU.1 hLx (ro_o hkx (by decide)) rfl
    refine g_getI C K hLx hkx f_8_32 (v := x_4) hx_4 dX8_hasDish_6 ?_
    refine g_icmp_ge C (tgt := 16) dX8_hasDish_9 (by decide) (fun h_5 => ?_) (fun h_5 => ?_)
    · skip
      refine g_iconst C (v := 0) dX8_hasDish_16 (by decide) ?_
      exact g_zret (ty := .boolean) (r := 0) B K rfl (rfl) ⟨rfl, rfl, rg_w rc_0 (by decide) (by decide), (fun q => absurd rfl q)⟩ dX8_hasDish_17
    · skip
      have r_6 := lt_l (hi := 5) (nle h_5) r_3 rx_4 (by decide)
      have r_7 := lt_r (lo := 1) (nle h_5) r_3 rx_4 (by decide)
      refine g_iconst C (v := 1) dX8_hasDish_12 (by decide) ?_
      refine g_goto C (tgt := 17) dX8_hasDish_13 (by decide) ?_
      exact g_zret (ty := .boolean) (r := 1) B K rfl (rfl) ⟨rfl, rfl, rg_w rc_1 (by decide) (by decide), (fun _ => r_6)⟩ dX8_hasDish_17
set_option maxRecDepth 100000 in
set_option maxHeartbeats 8000000 in
theorem c_X8_hasPerson {l : Launch} {D : va_G} {cy : Nat → ClassId} {L : List Nat} {κ ln : Nat → Nat} {R : Nat → Nat → Option Nat} {I : Nat → Nat → Int32} {J : Nat → Nat → Int64} {ow : Nat → Nat × Nat} (W9 : ∀ a ∈ L, Shp L κ ln R ow a) {x : Nat} (hLx : x ∈ L) (hkx : κ x = 8) (a0 : Int32) (hU : Iv L κ R ow I) : CtI l yX8_hasPerson cX8_hasPerson 2 (some .boolean) { frames := 0, cells := 0, slots := 0, locals := 0 } D cy L κ ln R I J [.ref x, .int a0] (fun r I2 J2 => I = I2 ∧ J = J2 ∧ Rg 0 1 r ∧ (¬ r = 0 → Rg 0 6 a0)) := by
  refine CtI.of (by decide +kernel) (Nat.le_of_ble_eq_true rfl) ?_
  intro p e s m below meth c B K
  have C := B.1
  refine g_lo (is := [0, 1]) (lo2 := [(0, .ref x), (1, .int a0)]) rfl ?_
  refine g_iload_n C 1 dX8_hasPerson_0 rfl rfl ?_
  refine g_if_lt C (tgt := 16) dX8_hasPerson_1 (by decide) (fun h_1 => ?_) (fun h_1 => ?_)
  · skip
    have r_2 := lt_l (hi := (-1)) (h_1) (rg_all a0) rc_0 (by decide)
    refine g_iconst C (v := 0) dX8_hasPerson_16 (by decide) ?_
    exact g_zret (ty := .boolean) (r := 0) B K rfl (rfl) ⟨rfl, rfl, rg_w rc_0 (by decide) (by decide), (fun q => absurd rfl q)⟩ dX8_hasPerson_17
  · skip
    have r_3 := le_r (nlt h_1) rc_0 (rg_all a0)
    refine g_iload_n C 1 dX8_hasPerson_4 rfl rfl ?_
    refine g_aload_n C 0 dX8_hasPerson_5 rfl rfl ?_
    obtain ⟨x_4, hx_4, rx_4⟩ := ex_get (I := I) (a := x) (j := 5) (lo := 0) (hi := 7) hU.1 hLx (ro_o hkx (by decide)) rfl
    refine g_getI C K hLx hkx f_8_28 (v := x_4) hx_4 dX8_hasPerson_6 ?_
    refine g_icmp_ge C (tgt := 16) dX8_hasPerson_9 (by decide) (fun h_5 => ?_) (fun h_5 => ?_)
    · skip
      refine g_iconst C (v := 0) dX8_hasPerson_16 (by decide) ?_
      exact g_zret (ty := .boolean) (r := 0) B K rfl (rfl) ⟨rfl, rfl, rg_w rc_0 (by decide) (by decide), (fun q => absurd rfl q)⟩ dX8_hasPerson_17
    · skip
      have r_6 := lt_l (hi := 6) (nle h_5) r_3 rx_4 (by decide)
      have r_7 := lt_r (lo := 1) (nle h_5) r_3 rx_4 (by decide)
      refine g_iconst C (v := 1) dX8_hasPerson_12 (by decide) ?_
      refine g_goto C (tgt := 17) dX8_hasPerson_13 (by decide) ?_
      exact g_zret (ty := .boolean) (r := 1) B K rfl (rfl) ⟨rfl, rfl, rg_w rc_1 (by decide) (by decide), (fun _ => r_6)⟩ dX8_hasPerson_17
set_option maxRecDepth 100000 in
set_option maxHeartbeats 8000000 in
theorem c_X11_plate {l : Launch} {D : va_G} {cy : Nat → ClassId} {L : List Nat} {κ ln : Nat → Nat} {R : Nat → Nat → Option Nat} {I : Nat → Nat → Int32} {J : Nat → Nat → Int64} {ow : Nat → Nat × Nat} (W9 : ∀ a ∈ L, Shp L κ ln R ow a) {x : Nat} (hLx : x ∈ L) (hkx : κ x = 11) (a0 : Int32) (a1 : Int32) (hU : Iv L κ R ow I) : CtI l yX11_plate cX11_plate 3 (some .int) { frames := 1, cells := 0, slots := 0, locals := 22 } D cy L κ ln R I J [.ref x, .int a0, .int a1] (fun r I2 J2 => I = I2 ∧ J = J2 ∧ Rg (-2147483648) 2147483647 r) := by
  refine CtI.of (by decide +kernel) (Nat.le_of_ble_eq_true rfl) ?_
  intro p e s m below meth c B K
  have C := B.1
  obtain ⟨b_1, hb_1, hb_1L, hb_1k⟩ := shp_o (W9 x hLx) hkx 2 1 rfl (by decide)
  obtain ⟨b_2, hb_2, hb_2L, hb_2k⟩ := shp_o (W9 x hLx) hkx 1 8 rfl (by decide)
  refine g_lo (is := [0, 1, 2]) (lo2 := [(0, .ref x), (1, .int a0), (2, .int a1)]) rfl ?_
  refine g_aload_n C 0 dX11_plate_0 rfl rfl ?_
  refine g_getR C K hLx hkx f_11_19 hb_2 dX11_plate_1 ?_
  refine g_iload_n C 1 dX11_plate_4 rfl rfl ?_
  refine g_callVI C K (c_X8_hasPerson W9 hb_2L hb_2k a0  hU) hb_2L hb_2k (by decide) rfl v_11_133 rfl ⟨rfl, rfl⟩ ⟨Nat.le_of_ble_eq_true rfl, Nat.le_of_ble_eq_true rfl⟩ (Nat.le_of_ble_eq_true rfl) ⟨Nat.le_of_ble_eq_true rfl, Nat.le_of_ble_eq_true rfl⟩ dX11_plate_5 rfl (st := []) (fun x_3 I_4 J_5 h_6 => ?_)
  obtain ⟨rfl, rfl, rx_3, ex_3⟩ := h_6
  refine g_if_eq C (tgt := 22) dX11_plate_8 (by decide) (fun h_7 => ?_) (fun h_7 => ?_)
  · skip
    have r_8 := (⟨(rx_3).1, (eq_rg (h_7) rc_0).2⟩ : Rg 0 0 x_3)
    refine g_iconst C (v := (-1)) dX11_plate_22 (by decide) ?_
    exact g_zret (ty := .int) (r := (-1)) B K rfl (rfl) ⟨rfl, rfl, rg_all _⟩ dX11_plate_23
  · skip
    have n_9 : ¬ x_3 = 0 := h_7
    have r_10 := ne_lo (lo := 1) n_9 rx_3 rc_0 rfl (by decide)
    have r_11 := rg_i (rg_all a0) ((ex_3) n_9) (lo := 0) (hi := 6) (by decide) (by decide)
    refine g_aload_n C 0 dX11_plate_11 rfl rfl ?_
    refine g_getR C K hLx hkx f_11_19 hb_2 dX11_plate_12 ?_
    refine g_iload_n C 2 dX11_plate_15 rfl rfl ?_
    refine g_callVI C K (c_X8_hasDish W9 hb_2L hb_2k a1  hU) hb_2L hb_2k (by decide) rfl v_11_175 rfl ⟨rfl, rfl⟩ ⟨Nat.le_of_ble_eq_true rfl, Nat.le_of_ble_eq_true rfl⟩ (Nat.le_of_ble_eq_true rfl) ⟨Nat.le_of_ble_eq_true rfl, Nat.le_of_ble_eq_true rfl⟩ dX11_plate_16 rfl (st := []) (fun x_12 I_13 J_14 h_15 => ?_)
    obtain ⟨rfl, rfl, rx_12, ex_12⟩ := h_15
    refine g_if_ne C (tgt := 24) dX11_plate_19 (by decide) (fun h_16 => ?_) (fun h_16 => ?_)
    · skip
      have n_17 : ¬ x_12 = 0 := h_16
      have r_18 := ne_lo (lo := 1) n_17 rx_12 rc_0 rfl (by decide)
      have r_19 := rg_i (rg_all a1) ((ex_12) n_17) (lo := 0) (hi := 5) (by decide) (by decide)
      refine g_aload_n C 0 dX11_plate_24 rfl rfl ?_
      refine g_getR C K hLx hkx f_11_28 hb_1 dX11_plate_25 ?_
      refine g_iload_n C 1 dX11_plate_28 rfl rfl ?_
      refine g_iload_n C 2 dX11_plate_29 rfl rfl ?_
      refine g_callVI C K (c_X1_onPlate W9 hb_1L hb_1k a0 a1 (r_11) (r_19) hU) hb_1L hb_1k (by decide) rfl v_11_178 rfl ⟨rfl, rfl⟩ ⟨Nat.le_of_ble_eq_true rfl, Nat.le_of_ble_eq_true rfl⟩ (Nat.le_of_ble_eq_true rfl) ⟨Nat.le_of_ble_eq_true rfl, Nat.le_of_ble_eq_true rfl⟩ dX11_plate_30 rfl (st := []) (fun x_20 I_21 J_22 h_23 => ?_)
      obtain ⟨rfl, rfl, rx_20⟩ := h_23
      exact g_zret (ty := .int) (r := x_20) B K rfl (rfl) ⟨rfl, rfl, rx_20⟩ dX11_plate_33
    · skip
      have r_24 := (⟨(rx_12).1, (eq_rg (h_16) rc_0).2⟩ : Rg 0 0 x_12)
      refine g_iconst C (v := (-1)) dX11_plate_22 (by decide) ?_
      exact g_zret (ty := .int) (r := (-1)) B K rfl (rfl) ⟨rfl, rfl, rg_all _⟩ dX11_plate_23
set_option maxRecDepth 100000 in
set_option maxHeartbeats 8000000 in
theorem c_X1_onPlatesOf {l : Launch} {D : va_G} {cy : Nat → ClassId} {L : List Nat} {κ ln : Nat → Nat} {R : Nat → Nat → Option Nat} {I : Nat → Nat → Int32} {J : Nat → Nat → Int64} {ow : Nat → Nat × Nat} (W9 : ∀ a ∈ L, Shp L κ ln R ow a) {x : Nat} (hLx : x ∈ L) (hkx : κ x = 1) (a0 : Int32) (a1 : Int32) (ra0 : Rg 0 127 a0) (ra1 : Rg 0 5 a1) (hU : Iv L κ R ow I) : CtI l yX1_onPlatesOf cX1_onPlatesOf 5 (some .int) { frames := 1, cells := 0, slots := 0, locals := 22 } D cy L κ ln R I J [.ref x, .int a0, .int a1] (fun r I2 J2 => I = I2 ∧ J = J2 ∧ Rg (-2147483648) 2147483647 r) := by
  refine CtI.of (by decide +kernel) (Nat.le_of_ble_eq_true rfl) ?_
  intro p e s m below meth c B K
  have C := B.1
  obtain ⟨b_1, hb_1, hb_1L, hb_1k⟩ := shp_o (W9 x hLx) hkx 0 8 rfl (by decide)
  refine g_lo (is := [0, 1, 2]) (lo2 := [(0, .ref x), (1, .int a0), (2, .int a1)]) rfl ?_
  have l_5 : ∀ (n_5 : Nat) (v_2 : Int32) (rv_2 : Rg 0 127 v_2) (v_3 : Int32) (rv_3 : Rg 0 5 v_3) (v_4 : Int32) (v_5 : Int32) (rv_5 : Rg 0 7 v_5) (hm_6 : 7 < (v_5 : Int32).toInt + (n_5 : Int)), WG p l e { frames := 1, cells := 0, slots := 0, locals := 22 } s m ([.ref x, .int a0, .int a1] : List Value).toArray below meth c 5 0 0 (MQ below (Qi_ D cy L κ ln R (fun r I2 J2 => I = I2 ∧ J = J2 ∧ Rg (-2147483648) 2147483647 r)) ([.ref x, .int a0, .int a1] : List Value).toArray s 0 0 (Al_ L)) D cy (Al_ L) s.heap L κ ln R I J 5 [(0, .ref x), (1, .int v_2), (2, .int v_3), (3, .int v_4), (4, .int v_5)] [] := by
    intro n_5
    induction n_5 with
    | zero =>
      intro v_2 rv_2 v_3 rv_3 v_4 v_5 rv_5 hm_6
      exact ms_0 rv_5 hm_6
    | succ n_5 ih_5 =>
      intro v_2 rv_2 v_3 rv_3 v_4 v_5 rv_5 hm_6
      have j_36 : ∀ (v_7 : Int32) (rv_7 : Rg 0 127 v_7) (v_8 : Int32) (rv_8 : Rg 0 5 v_8) (v_9 : Int32) (v_10 : Int32) (rv_10 : Rg 0 6 v_10) (v_11 : Int32) (rv_11 : Rg 1 7 v_11) (q_12 : I b_1 5 = v_11) (hm_13 : 7 < (v_10 : Int32).toInt + ((n_5 + 1 : Nat) : Int)), WG p l e { frames := 1, cells := 0, slots := 0, locals := 22 } s m ([.ref x, .int a0, .int a1] : List Value).toArray below meth c 5 0 0 (MQ below (Qi_ D cy L κ ln R (fun r I2 J2 => I = I2 ∧ J = J2 ∧ Rg (-2147483648) 2147483647 r)) ([.ref x, .int a0, .int a1] : List Value).toArray s 0 0 (Al_ L)) D cy (Al_ L) s.heap L κ ln R I J 36 [(0, .ref x), (1, .int v_7), (2, .int v_8), (3, .int v_9), (4, .int v_10)] [] := by
        intro v_7 rv_7 v_8 rv_8 v_9 v_10 rv_10 v_11 rv_11 q_12 hm_13
        obtain ⟨x_14, hx_14, rx_14, tx_14⟩ := ex_add (y := 1) 1 7 rv_10 rc_1 (by decide) (by decide) (by decide) (by decide)
        refine g_iinc C dX1_onPlatesOf_36 (k := 4) (v := x_14) rfl hx_14 (by decide) (lo2 := [(4, .int x_14), (0, .ref x), (1, .int v_7), (2, .int v_8), (3, .int v_9)]) rfl ?_
        refine g_goto C (tgt := 5) dX1_onPlatesOf_39 (by decide) ?_
        refine g_lo (is := [1, 2, 3, 4, 0]) (lo2 := [(0, .ref x), (1, .int v_7), (2, .int v_8), (3, .int v_9), (4, .int x_14)]) rfl ?_
        exact ih_5 v_7 (rv_7) v_8 (rv_8) v_9 x_14 (rg_w rx_14 (by decide) (by decide)) (ms_1 hm_13 (ti_k tx_14 rc_1) (by decide))
      refine g_iload C 4 dX1_onPlatesOf_5 rfl ?_
      refine g_aload_n C 0 dX1_onPlatesOf_7 rfl rfl ?_
      refine g_getR C K hLx hkx f_1_52 hb_1 dX1_onPlatesOf_8 ?_
      obtain ⟨x_15, hx_15, rx_15⟩ := ex_get (I := I) (a := b_1) (j := 5) (lo := 0) (hi := 7) hU.1 hb_1L (ro_o hb_1k (by decide)) rfl
      refine g_getI C K hb_1L hb_1k f_1_68 (v := x_15) hx_15 dX1_onPlatesOf_11 ?_
      refine g_icmp_ge C (tgt := 42) dX1_onPlatesOf_14 (by decide) (fun h_16 => ?_) (fun h_16 => ?_)
      · skip
        refine g_iload_n C 3 dX1_onPlatesOf_42 rfl rfl ?_
        exact g_zret (ty := .int) (r := v_4) B K rfl (rfl) ⟨rfl, rfl, (rg_all v_4)⟩ dX1_onPlatesOf_43
      · skip
        have r_17 := lt_l (hi := 6) (nle h_16) rv_5 rx_15 (by decide)
        have r_18 := lt_r (lo := 1) (nle h_16) rv_5 rx_15 (by decide)
        refine g_iload_n C 1 dX1_onPlatesOf_17 rfl rfl ?_
        refine g_iload C 4 dX1_onPlatesOf_18 rfl ?_
        obtain ⟨x_19, hx_19, rx_19⟩ := ex_shr (x := v_2) (y := v_5) (b := 127) (rv_2)
        refine g_ishr C (v := x_19) dX1_onPlatesOf_20 hx_19 ?_
        refine g_iconst C (v := 1) dX1_onPlatesOf_21 (by decide) ?_
        obtain ⟨x_20, hx_20, rx_20⟩ := ex_andr (x := x_19) (y := 1) (b := 1) (rg_w rc_1 (by decide) (by decide))
        refine g_iand C (v := x_20) dX1_onPlatesOf_22 hx_20 ?_
        refine g_if_eq C (tgt := 36) dX1_onPlatesOf_23 (by decide) (fun h_21 => ?_) (fun h_21 => ?_)
        · skip
          have r_22 := (⟨(rx_20).1, (eq_rg (h_21) rc_0).2⟩ : Rg 0 0 x_20)
          refine g_lo (is := [0, 1, 2, 3, 4]) (lo2 := [(0, .ref x), (1, .int v_2), (2, .int v_3), (3, .int v_4), (4, .int v_5)]) rfl ?_
          exact j_36 v_2 (rv_2) v_3 (rv_3) v_4 v_5 (r_17) x_15 (r_18) hx_15 hm_6
        · skip
          have n_23 : ¬ x_20 = 0 := h_21
          have r_24 := ne_lo (lo := 1) n_23 rx_20 rc_0 rfl (by decide)
          refine g_iload_n C 3 dX1_onPlatesOf_26 rfl rfl ?_
          refine g_aload_n C 0 dX1_onPlatesOf_27 rfl rfl ?_
          refine g_iload C 4 dX1_onPlatesOf_28 rfl ?_
          refine g_iload_n C 2 dX1_onPlatesOf_30 rfl rfl ?_
          refine g_callVI C K (c_X1_onPlate W9 hLx hkx v_5 v_3 (r_17) (rv_3) hU) hLx hkx (by decide) rfl v_1_71 rfl ⟨rfl, rfl⟩ ⟨Nat.le_of_ble_eq_true rfl, Nat.le_of_ble_eq_true rfl⟩ (Nat.le_of_ble_eq_true rfl) ⟨Nat.le_of_ble_eq_true rfl, Nat.le_of_ble_eq_true rfl⟩ dX1_onPlatesOf_31 rfl (st := [.int v_4]) (fun x_25 I_26 J_27 h_28 => ?_)
          obtain ⟨rfl, rfl, rx_25⟩ := h_28
          obtain ⟨x_29, hx_29, rx_29⟩ := ex_any (z0 := v_4 + x_25)
          refine g_iadd C (v := x_29) dX1_onPlatesOf_34 hx_29 ?_
          refine g_istore_n C dX1_onPlatesOf_35 rfl (by decide) (lo2 := [(3, .int x_29), (0, .ref x), (1, .int v_2), (2, .int v_3), (4, .int v_5)]) rfl ?_
          refine g_lo (is := [1, 2, 3, 0, 4]) (lo2 := [(0, .ref x), (1, .int v_2), (2, .int v_3), (3, .int x_29), (4, .int v_5)]) rfl ?_
          exact j_36 v_2 (rv_2) v_3 (rv_3) x_29 v_5 (r_17) x_15 (r_18) hx_15 hm_6
  refine g_iconst C (v := 0) dX1_onPlatesOf_0 (by decide) ?_
  refine g_istore_n C dX1_onPlatesOf_1 rfl (by decide) (lo2 := [(3, .int 0), (0, .ref x), (1, .int a0), (2, .int a1)]) rfl ?_
  refine g_iconst C (v := 0) dX1_onPlatesOf_2 (by decide) ?_
  refine g_istore C dX1_onPlatesOf_3 (by decide) (lo2 := [(4, .int 0), (3, .int 0), (0, .ref x), (1, .int a0), (2, .int a1)]) rfl ?_
  refine g_lo (is := [2, 3, 4, 1, 0]) (lo2 := [(0, .ref x), (1, .int a0), (2, .int a1), (3, .int 0), (4, .int 0)]) rfl ?_
  exact l_5 8 a0 (ra0) a1 (ra1) 0 0 (rg_w rc_0 (by decide) (by decide)) (ms_s (a := 0) (b := 7) (N := 8) (rg_w rc_0 (by decide) (by decide)) (by decide))
set_option maxRecDepth 100000 in
set_option maxHeartbeats 8000000 in
theorem c_X8_everybody {l : Launch} {D : va_G} {cy : Nat → ClassId} {L : List Nat} {κ ln : Nat → Nat} {R : Nat → Nat → Option Nat} {I : Nat → Nat → Int32} {J : Nat → Nat → Int64} {ow : Nat → Nat × Nat} (W9 : ∀ a ∈ L, Shp L κ ln R ow a) {x : Nat} (hLx : x ∈ L) (hkx : κ x = 8) (hU : Iv L κ R ow I) : CtI l yX8_everybody cX8_everybody 1 (some .int) { frames := 0, cells := 0, slots := 0, locals := 0 } D cy L κ ln R I J [.ref x] (fun r I2 J2 => I = I2 ∧ J = J2 ∧ Rg 0 127 r) := by
  refine CtI.of (by decide +kernel) (Nat.le_of_ble_eq_true rfl) ?_
  intro p e s m below meth c B K
  have C := B.1
  refine g_lo (is := [0]) (lo2 := [(0, .ref x)]) rfl ?_
  refine g_iconst C (v := 1) dX8_everybody_0 (by decide) ?_
  refine g_aload_n C 0 dX8_everybody_1 rfl rfl ?_
  obtain ⟨x_1, hx_1, rx_1⟩ := ex_get (I := I) (a := x) (j := 5) (lo := 0) (hi := 7) hU.1 hLx (ro_o hkx (by decide)) rfl
  refine g_getI C K hLx hkx f_8_28 (v := x_1) hx_1 dX8_everybody_2 ?_
  obtain ⟨x_2, hx_2, rx_2⟩ := ex_shl (x := 1) (y := x_1) 7 128 rfl (rx_1) (by decide)
  refine g_ishl C (v := x_2) dX8_everybody_5 hx_2 ?_
  refine g_iconst C (v := 1) dX8_everybody_6 (by decide) ?_
  obtain ⟨x_3, hx_3, rx_3, tx_3⟩ := ex_sub 0 127 rx_2 rc_1 (by decide) (by decide) (by decide) (by decide)
  refine g_isub C (v := x_3) dX8_everybody_7 hx_3 ?_
  exact g_zret (ty := .int) (r := x_3) B K rfl (rfl) ⟨rfl, rfl, rx_3⟩ dX8_everybody_8
set_option maxRecDepth 100000 in
set_option maxHeartbeats 8000000 in
theorem c_X11_dish {l : Launch} {D : va_G} {cy : Nat → ClassId} {L : List Nat} {κ ln : Nat → Nat} {R : Nat → Nat → Option Nat} {I : Nat → Nat → Int32} {J : Nat → Nat → Int64} {ow : Nat → Nat × Nat} (W9 : ∀ a ∈ L, Shp L κ ln R ow a) {x : Nat} (hLx : x ∈ L) (hkx : κ x = 11) (a0 : Int32) (a1 : Int32) (hU : Iv L κ R ow I) : CtI l yX11_dish cX11_dish 3 (some .int) { frames := 2, cells := 0, slots := 0, locals := 46 } D cy L κ ln R I J [.ref x, .int a0, .int a1] (fun r I2 J2 => I = I2 ∧ J = J2 ∧ Rg (-2147483648) 2147483647 r) := by
  refine CtI.of (by decide +kernel) (Nat.le_of_ble_eq_true rfl) ?_
  intro p e s m below meth c B K
  have C := B.1
  obtain ⟨b_1, hb_1, hb_1L, hb_1k⟩ := shp_o (W9 x hLx) hkx 2 1 rfl (by decide)
  obtain ⟨b_2, hb_2, hb_2L, hb_2k⟩ := shp_o (W9 x hLx) hkx 1 8 rfl (by decide)
  obtain ⟨b_3, hb_3, hb_3L, hb_3k, hb_3n, hb_3o⟩ := shp_a (W9 b_2 hb_2L) hb_2k 4 14 6 rfl (by decide)
  obtain ⟨b_4, hb_4, hb_4L, hb_4k, hb_4n, hb_4o⟩ := shp_a (W9 b_1 hb_1L) hb_1k 1 14 6 rfl (by decide)
  refine g_lo (is := [0, 1, 2]) (lo2 := [(0, .ref x), (1, .int a0), (2, .int a1)]) rfl ?_
  refine g_aload_n C 0 dX11_dish_0 rfl rfl ?_
  refine g_getR C K hLx hkx f_11_19 hb_2 dX11_dish_1 ?_
  refine g_iload_n C 1 dX11_dish_4 rfl rfl ?_
  refine g_callVI C K (c_X8_hasDish W9 hb_2L hb_2k a0  hU) hb_2L hb_2k (by decide) rfl v_11_175 rfl ⟨rfl, rfl⟩ ⟨Nat.le_of_ble_eq_true rfl, Nat.le_of_ble_eq_true rfl⟩ (Nat.le_of_ble_eq_true rfl) ⟨Nat.le_of_ble_eq_true rfl, Nat.le_of_ble_eq_true rfl⟩ dX11_dish_5 rfl (st := []) (fun x_5 I_6 J_7 h_8 => ?_)
  obtain ⟨rfl, rfl, rx_5, ex_5⟩ := h_8
  refine g_if_ne C (tgt := 13) dX11_dish_8 (by decide) (fun h_9 => ?_) (fun h_9 => ?_)
  · skip
    have n_10 : ¬ x_5 = 0 := h_9
    have r_11 := ne_lo (lo := 1) n_10 rx_5 rc_0 rfl (by decide)
    have r_12 := rg_i (rg_all a0) ((ex_5) n_10) (lo := 0) (hi := 5) (by decide) (by decide)
    refine g_iload_n C 2 dX11_dish_13 rfl rfl ?_
    by_cases c_13 : a1.toInt = 0
    · skip
      have r_14 := rg_of (a := 0) (b := 0) 0 c_13 (by decide) (by decide)
      refine g_tableIn C (tgt := 40) dX11_dish_14 (by omega) (by omega) (off := 26) (by rw [c_13]; rfl) (by decide) ?_
      refine g_aload_n C 0 dX11_dish_40 rfl rfl ?_
      refine g_getR C K hLx hkx f_11_28 hb_1 dX11_dish_41 ?_
      refine g_getR C K hb_1L hb_1k f_11_182 hb_4 dX11_dish_44 ?_
      refine g_iload_n C 1 dX11_dish_47 rfl rfl ?_
      obtain ⟨x_15, hx_15, rx_15⟩ := ex_get (I := I) (a := b_4) (j := a0.toNatClampNeg) (lo := (-2147483648)) (hi := 2147483647) hU.1 hb_4L (ro_a hb_4k (by decide) hb_4o hb_1k rfl) (rfl)
      refine h_iald C K hb_4L hb_4k (v := x_15) (a0.toNatClampNeg) (rfl) (ix_0 r_12 (by decide)) (ix_lt r_12 (by decide) hb_4n (by decide)) hx_15 dX11_dish_48 ?_
      exact g_zret (ty := .int) (r := x_15) B K rfl (rfl) ⟨rfl, rfl, rx_15⟩ dX11_dish_49
    by_cases c_16 : a1.toInt = 1
    · skip
      have r_17 := rg_of (a := 1) (b := 1) 1 c_16 (by decide) (by decide)
      refine g_tableIn C (tgt := 50) dX11_dish_14 (by omega) (by omega) (off := 36) (by rw [c_16]; rfl) (by decide) ?_
      refine g_aload_n C 0 dX11_dish_50 rfl rfl ?_
      refine g_getR C K hLx hkx f_11_19 hb_2 dX11_dish_51 ?_
      refine g_getR C K hb_2L hb_2k f_11_185 hb_3 dX11_dish_54 ?_
      refine g_iload_n C 1 dX11_dish_57 rfl rfl ?_
      obtain ⟨x_18, hx_18, rx_18⟩ := ex_get (I := I) (a := b_3) (j := a0.toNatClampNeg) (lo := (-2147483648)) (hi := 2147483647) hU.1 hb_3L (ro_a hb_3k (by decide) hb_3o hb_2k rfl) (rfl)
      refine h_iald C K hb_3L hb_3k (v := x_18) (a0.toNatClampNeg) (rfl) (ix_0 r_12 (by decide)) (ix_lt r_12 (by decide) hb_3n (by decide)) hx_18 dX11_dish_58 ?_
      exact g_zret (ty := .int) (r := x_18) B K rfl (rfl) ⟨rfl, rfl, rx_18⟩ dX11_dish_59
    by_cases c_19 : a1.toInt = 2
    · skip
      have r_20 := rg_of (a := 2) (b := 2) 2 c_19 (by decide) (by decide)
      refine g_tableIn C (tgt := 60) dX11_dish_14 (by omega) (by omega) (off := 46) (by rw [c_19]; rfl) (by decide) ?_
      refine g_aload_n C 0 dX11_dish_60 rfl rfl ?_
      refine g_getR C K hLx hkx f_11_28 hb_1 dX11_dish_61 ?_
      refine g_aload_n C 0 dX11_dish_64 rfl rfl ?_
      refine g_getR C K hLx hkx f_11_19 hb_2 dX11_dish_65 ?_
      refine g_callVI C K (c_X8_everybody W9 hb_2L hb_2k   hU) hb_2L hb_2k (by decide) rfl v_11_188 rfl ⟨rfl, rfl⟩ ⟨Nat.le_of_ble_eq_true rfl, Nat.le_of_ble_eq_true rfl⟩ (Nat.le_of_ble_eq_true rfl) ⟨Nat.le_of_ble_eq_true rfl, Nat.le_of_ble_eq_true rfl⟩ dX11_dish_68 rfl (st := [.ref b_1]) (fun x_21 I_22 J_23 h_24 => ?_)
      obtain ⟨rfl, rfl, rx_21⟩ := h_24
      refine g_iload_n C 1 dX11_dish_71 rfl rfl ?_
      refine g_callVI C K (c_X1_onPlatesOf W9 hb_1L hb_1k x_21 a0 (rx_21) (r_12) hU) hb_1L hb_1k (by decide) rfl v_11_192 rfl ⟨rfl, rfl⟩ ⟨Nat.le_of_ble_eq_true rfl, Nat.le_of_ble_eq_true rfl⟩ (Nat.le_of_ble_eq_true rfl) ⟨Nat.le_of_ble_eq_true rfl, Nat.le_of_ble_eq_true rfl⟩ dX11_dish_72 rfl (st := []) (fun x_25 I_26 J_27 h_28 => ?_)
      obtain ⟨rfl, rfl, rx_25⟩ := h_28
      exact g_zret (ty := .int) (r := x_25) B K rfl (rfl) ⟨rfl, rfl, rx_25⟩ dX11_dish_75
    obtain ⟨q_291, q_292⟩ := (rg_all a1)
    refine g_tableOut C (tgt := 76) dX11_dish_14 (by omega) (by decide) ?_
    refine g_iconst C (v := (-1)) dX11_dish_76 (by decide) ?_
    exact g_zret (ty := .int) (r := (-1)) B K rfl (rfl) ⟨rfl, rfl, rg_all _⟩ dX11_dish_77
  · skip
    have r_30 := (⟨(rx_5).1, (eq_rg (h_9) rc_0).2⟩ : Rg 0 0 x_5)
    refine g_iconst C (v := (-1)) dX11_dish_11 (by decide) ?_
    exact g_zret (ty := .int) (r := (-1)) B K rfl (rfl) ⟨rfl, rfl, rg_all _⟩ dX11_dish_12
