theorem dX11_dish_0 : decode cX11_dish 0 = .ok (.aload_n 0, 1) := by decide +kernel
theorem dX11_dish_1 : decode cX11_dish 1 = .ok (.getfield 19, 3) := by decide +kernel
theorem dX11_dish_4 : decode cX11_dish 4 = .ok (.iload_n 1, 1) := by decide +kernel
theorem dX11_dish_5 : decode cX11_dish 5 = .ok (.invokevirtual 175, 3) := by decide +kernel
theorem dX11_dish_8 : decode cX11_dish 8 = .ok (.ifCond .ne 5, 3) := by decide +kernel
theorem dX11_dish_11 : decode cX11_dish 11 = .ok (.iconst (-1), 1) := by decide +kernel
theorem dX11_dish_12 : decode cX11_dish 12 = .ok (.ireturn, 1) := by decide +kernel
theorem dX11_dish_13 : decode cX11_dish 13 = .ok (.iload_n 2, 1) := by decide +kernel
theorem dX11_dish_14 : decode cX11_dish 14 = .ok (.tableswitch 62 0 2 #[26, 36, 46], 26) := by decide +kernel
theorem dX11_dish_40 : decode cX11_dish 40 = .ok (.aload_n 0, 1) := by decide +kernel
theorem dX11_dish_41 : decode cX11_dish 41 = .ok (.getfield 28, 3) := by decide +kernel
theorem dX11_dish_44 : decode cX11_dish 44 = .ok (.getfield 182, 3) := by decide +kernel
theorem dX11_dish_47 : decode cX11_dish 47 = .ok (.iload_n 1, 1) := by decide +kernel
theorem dX11_dish_48 : decode cX11_dish 48 = .ok (.iaload, 1) := by decide +kernel
theorem dX11_dish_49 : decode cX11_dish 49 = .ok (.ireturn, 1) := by decide +kernel
theorem dX11_dish_50 : decode cX11_dish 50 = .ok (.aload_n 0, 1) := by decide +kernel
theorem dX11_dish_51 : decode cX11_dish 51 = .ok (.getfield 19, 3) := by decide +kernel
theorem dX11_dish_54 : decode cX11_dish 54 = .ok (.getfield 185, 3) := by decide +kernel
theorem dX11_dish_57 : decode cX11_dish 57 = .ok (.iload_n 1, 1) := by decide +kernel
theorem dX11_dish_58 : decode cX11_dish 58 = .ok (.iaload, 1) := by decide +kernel
theorem dX11_dish_59 : decode cX11_dish 59 = .ok (.ireturn, 1) := by decide +kernel
theorem dX11_dish_60 : decode cX11_dish 60 = .ok (.aload_n 0, 1) := by decide +kernel
theorem dX11_dish_61 : decode cX11_dish 61 = .ok (.getfield 28, 3) := by decide +kernel
theorem dX11_dish_64 : decode cX11_dish 64 = .ok (.aload_n 0, 1) := by decide +kernel
theorem dX11_dish_65 : decode cX11_dish 65 = .ok (.getfield 19, 3) := by decide +kernel
theorem dX11_dish_68 : decode cX11_dish 68 = .ok (.invokevirtual 188, 3) := by decide +kernel
theorem dX11_dish_71 : decode cX11_dish 71 = .ok (.iload_n 1, 1) := by decide +kernel
theorem dX11_dish_72 : decode cX11_dish 72 = .ok (.invokevirtual 192, 3) := by decide +kernel
theorem dX11_dish_75 : decode cX11_dish 75 = .ok (.ireturn, 1) := by decide +kernel
theorem dX11_dish_76 : decode cX11_dish 76 = .ok (.iconst (-1), 1) := by decide +kernel
theorem dX11_dish_77 : decode cX11_dish 77 = .ok (.ireturn, 1) := by decide +kernel
theorem dX11_fault_0 : decode cX11_fault 0 = .ok (.aload_n 0, 1) := by decide +kernel
theorem dX11_fault_1 : decode cX11_fault 1 = .ok (.getfield 10, 3) := by decide +kernel
theorem dX11_fault_4 : decode cX11_fault 4 = .ok (.getfield 113, 3) := by decide +kernel
theorem dX11_fault_7 : decode cX11_fault 7 = .ok (.ireturn, 1) := by decide +kernel
theorem dX11_plate_0 : decode cX11_plate 0 = .ok (.aload_n 0, 1) := by decide +kernel
theorem dX11_plate_1 : decode cX11_plate 1 = .ok (.getfield 19, 3) := by decide +kernel
theorem dX11_plate_4 : decode cX11_plate 4 = .ok (.iload_n 1, 1) := by decide +kernel
theorem dX11_plate_5 : decode cX11_plate 5 = .ok (.invokevirtual 133, 3) := by decide +kernel
theorem dX11_plate_8 : decode cX11_plate 8 = .ok (.ifCond .eq 14, 3) := by decide +kernel
theorem dX11_plate_11 : decode cX11_plate 11 = .ok (.aload_n 0, 1) := by decide +kernel
theorem dX11_plate_12 : decode cX11_plate 12 = .ok (.getfield 19, 3) := by decide +kernel
theorem dX11_plate_15 : decode cX11_plate 15 = .ok (.iload_n 2, 1) := by decide +kernel
theorem dX11_plate_16 : decode cX11_plate 16 = .ok (.invokevirtual 175, 3) := by decide +kernel
theorem dX11_plate_19 : decode cX11_plate 19 = .ok (.ifCond .ne 5, 3) := by decide +kernel
theorem dX11_plate_22 : decode cX11_plate 22 = .ok (.iconst (-1), 1) := by decide +kernel
theorem dX11_plate_23 : decode cX11_plate 23 = .ok (.ireturn, 1) := by decide +kernel
theorem dX11_plate_24 : decode cX11_plate 24 = .ok (.aload_n 0, 1) := by decide +kernel
theorem dX11_plate_25 : decode cX11_plate 25 = .ok (.getfield 28, 3) := by decide +kernel
theorem dX11_plate_28 : decode cX11_plate 28 = .ok (.iload_n 1, 1) := by decide +kernel
theorem dX11_plate_29 : decode cX11_plate 29 = .ok (.iload_n 2, 1) := by decide +kernel
theorem dX11_plate_30 : decode cX11_plate 30 = .ok (.invokevirtual 178, 3) := by decide +kernel
theorem dX11_plate_33 : decode cX11_plate 33 = .ok (.ireturn, 1) := by decide +kernel
theorem dX11_table_0 : decode cX11_table 0 = .ok (.aload_n 0, 1) := by decide +kernel
theorem dX11_table_1 : decode cX11_table 1 = .ok (.getfield 45, 3) := by decide +kernel
theorem dX11_table_4 : decode cX11_table 4 = .ok (.aload_n 0, 1) := by decide +kernel
theorem dX11_table_5 : decode cX11_table 5 = .ok (.getfield 10, 3) := by decide +kernel
theorem dX11_table_8 : decode cX11_table 8 = .ok (.invokevirtual 109, 3) := by decide +kernel
theorem dX11_table_11 : decode cX11_table 11 = .ok (.istore_n 1, 1) := by decide +kernel
theorem dX11_table_12 : decode cX11_table 12 = .ok (.aload_n 0, 1) := by decide +kernel
theorem dX11_table_13 : decode cX11_table 13 = .ok (.getfield 10, 3) := by decide +kernel
theorem dX11_table_16 : decode cX11_table 16 = .ok (.iconst 0, 1) := by decide +kernel
theorem dX11_table_17 : decode cX11_table 17 = .ok (.putfield 102, 3) := by decide +kernel
theorem dX11_table_20 : decode cX11_table 20 = .ok (.aload_n 0, 1) := by decide +kernel
theorem dX11_table_21 : decode cX11_table 21 = .ok (.getfield 10, 3) := by decide +kernel
theorem dX11_table_24 : decode cX11_table 24 = .ok (.getfield 113, 3) := by decide +kernel
theorem dX11_table_27 : decode cX11_table 27 = .ok (.ifCond .eq 13, 3) := by decide +kernel
theorem dX11_table_30 : decode cX11_table 30 = .ok (.iconst (-1), 1) := by decide +kernel
theorem dX11_table_31 : decode cX11_table 31 = .ok (.aload_n 0, 1) := by decide +kernel
theorem dX11_table_32 : decode cX11_table 32 = .ok (.getfield 10, 3) := by decide +kernel
theorem dX11_table_35 : decode cX11_table 35 = .ok (.getfield 116, 3) := by decide +kernel
theorem dX11_table_38 : decode cX11_table 38 = .ok (.isub, 1) := by decide +kernel
theorem dX11_table_39 : decode cX11_table 39 = .ok (.ireturn, 1) := by decide +kernel
theorem dX11_table_40 : decode cX11_table 40 = .ok (.aload_n 0, 1) := by decide +kernel
theorem dX11_table_41 : decode cX11_table 41 = .ok (.getfield 19, 3) := by decide +kernel
theorem dX11_table_44 : decode cX11_table 44 = .ok (.aload_n 0, 1) := by decide +kernel
theorem dX11_table_45 : decode cX11_table 45 = .ok (.getfield 45, 3) := by decide +kernel
theorem dX11_table_48 : decode cX11_table 48 = .ok (.getfield 119, 3) := by decide +kernel
theorem dX11_table_51 : decode cX11_table 51 = .ok (.invokevirtual 120, 3) := by decide +kernel
theorem dX11_table_54 : decode cX11_table 54 = .ok (.aload_n 0, 1) := by decide +kernel
theorem dX11_table_55 : decode cX11_table 55 = .ok (.getfield 28, 3) := by decide +kernel
theorem dX11_table_58 : decode cX11_table 58 = .ok (.aload_n 0, 1) := by decide +kernel
theorem dX11_table_59 : decode cX11_table 59 = .ok (.getfield 45, 3) := by decide +kernel
theorem dX11_table_62 : decode cX11_table 62 = .ok (.getfield 123, 3) := by decide +kernel
theorem dX11_table_65 : decode cX11_table 65 = .ok (.invokevirtual 126, 3) := by decide +kernel
theorem dX11_table_68 : decode cX11_table 68 = .ok (.aload_n 0, 1) := by decide +kernel
theorem dX11_table_69 : decode cX11_table 69 = .ok (.getfield 59, 3) := by decide +kernel
theorem dX11_table_72 : decode cX11_table 72 = .ok (.invokevirtual 129, 3) := by decide +kernel
theorem dX11_table_75 : decode cX11_table 75 = .ok (.aload_n 0, 1) := by decide +kernel
theorem dX11_table_76 : decode cX11_table 76 = .ok (.getfield 38, 3) := by decide +kernel
theorem dX11_table_79 : decode cX11_table 79 = .ok (.invokevirtual 132, 3) := by decide +kernel
theorem dX11_table_82 : decode cX11_table 82 = .ok (.iload_n 1, 1) := by decide +kernel
theorem dX11_table_83 : decode cX11_table 83 = .ok (.ireturn, 1) := by decide +kernel
theorem dX1_addToPlate_0 : decode cX1_addToPlate 0 = .ok (.aload_n 0, 1) := by decide +kernel
theorem dX1_addToPlate_1 : decode cX1_addToPlate 1 = .ok (.getfield 15, 3) := by decide +kernel
theorem dX1_addToPlate_4 : decode cX1_addToPlate 4 = .ok (.iload_n 1, 1) := by decide +kernel
theorem dX1_addToPlate_5 : decode cX1_addToPlate 5 = .ok (.bipush 6, 2) := by decide +kernel
theorem dX1_addToPlate_7 : decode cX1_addToPlate 7 = .ok (.imul, 1) := by decide +kernel
theorem dX1_addToPlate_8 : decode cX1_addToPlate 8 = .ok (.iload_n 2, 1) := by decide +kernel
theorem dX1_addToPlate_9 : decode cX1_addToPlate 9 = .ok (.iadd, 1) := by decide +kernel
theorem dX1_addToPlate_10 : decode cX1_addToPlate 10 = .ok (.dup2, 1) := by decide +kernel
theorem dX1_addToPlate_11 : decode cX1_addToPlate 11 = .ok (.iaload, 1) := by decide +kernel
theorem dX1_addToPlate_12 : decode cX1_addToPlate 12 = .ok (.iload_n 3, 1) := by decide +kernel
theorem dX1_addToPlate_13 : decode cX1_addToPlate 13 = .ok (.iadd, 1) := by decide +kernel
theorem dX1_addToPlate_14 : decode cX1_addToPlate 14 = .ok (.iastore, 1) := by decide +kernel
theorem dX1_addToPlate_15 : decode cX1_addToPlate 15 = .ok (.aload_n 0, 1) := by decide +kernel
theorem dX1_addToPlate_16 : decode cX1_addToPlate 16 = .ok (.getfield 18, 3) := by decide +kernel
theorem dX1_addToPlate_19 : decode cX1_addToPlate 19 = .ok (.iload_n 1, 1) := by decide +kernel
theorem dX1_addToPlate_20 : decode cX1_addToPlate 20 = .ok (.dup2, 1) := by decide +kernel
theorem dX1_addToPlate_21 : decode cX1_addToPlate 21 = .ok (.iaload, 1) := by decide +kernel
theorem dX1_addToPlate_22 : decode cX1_addToPlate 22 = .ok (.iload_n 3, 1) := by decide +kernel
theorem dX1_addToPlate_23 : decode cX1_addToPlate 23 = .ok (.iadd, 1) := by decide +kernel
theorem dX1_addToPlate_24 : decode cX1_addToPlate 24 = .ok (.iastore, 1) := by decide +kernel
theorem dX1_addToPlate_25 : decode cX1_addToPlate 25 = .ok (.return_, 1) := by decide +kernel
theorem dX1_onPlate_0 : decode cX1_onPlate 0 = .ok (.aload_n 0, 1) := by decide +kernel
theorem dX1_onPlate_1 : decode cX1_onPlate 1 = .ok (.getfield 15, 3) := by decide +kernel
theorem dX1_onPlate_4 : decode cX1_onPlate 4 = .ok (.iload_n 1, 1) := by decide +kernel
theorem dX1_onPlate_5 : decode cX1_onPlate 5 = .ok (.bipush 6, 2) := by decide +kernel
theorem dX1_onPlate_7 : decode cX1_onPlate 7 = .ok (.imul, 1) := by decide +kernel
theorem dX1_onPlate_8 : decode cX1_onPlate 8 = .ok (.iload_n 2, 1) := by decide +kernel
theorem dX1_onPlate_9 : decode cX1_onPlate 9 = .ok (.iadd, 1) := by decide +kernel
theorem dX1_onPlate_10 : decode cX1_onPlate 10 = .ok (.iaload, 1) := by decide +kernel
theorem dX1_onPlate_11 : decode cX1_onPlate 11 = .ok (.ireturn, 1) := by decide +kernel
theorem dX1_onPlatesOf_0 : decode cX1_onPlatesOf 0 = .ok (.iconst 0, 1) := by decide +kernel
theorem dX1_onPlatesOf_1 : decode cX1_onPlatesOf 1 = .ok (.istore_n 3, 1) := by decide +kernel
theorem dX1_onPlatesOf_2 : decode cX1_onPlatesOf 2 = .ok (.iconst 0, 1) := by decide +kernel
theorem dX1_onPlatesOf_3 : decode cX1_onPlatesOf 3 = .ok (.istore 4, 2) := by decide +kernel
theorem dX1_onPlatesOf_5 : decode cX1_onPlatesOf 5 = .ok (.iload 4, 2) := by decide +kernel
theorem dX1_onPlatesOf_7 : decode cX1_onPlatesOf 7 = .ok (.aload_n 0, 1) := by decide +kernel
theorem dX1_onPlatesOf_8 : decode cX1_onPlatesOf 8 = .ok (.getfield 52, 3) := by decide +kernel
theorem dX1_onPlatesOf_11 : decode cX1_onPlatesOf 11 = .ok (.getfield 68, 3) := by decide +kernel
theorem dX1_onPlatesOf_14 : decode cX1_onPlatesOf 14 = .ok (.if_icmp .ge 28, 3) := by decide +kernel
theorem dX1_onPlatesOf_17 : decode cX1_onPlatesOf 17 = .ok (.iload_n 1, 1) := by decide +kernel
theorem dX1_onPlatesOf_18 : decode cX1_onPlatesOf 18 = .ok (.iload 4, 2) := by decide +kernel
theorem dX1_onPlatesOf_20 : decode cX1_onPlatesOf 20 = .ok (.ishr, 1) := by decide +kernel
theorem dX1_onPlatesOf_21 : decode cX1_onPlatesOf 21 = .ok (.iconst 1, 1) := by decide +kernel
theorem dX1_onPlatesOf_22 : decode cX1_onPlatesOf 22 = .ok (.iand, 1) := by decide +kernel
theorem dX1_onPlatesOf_23 : decode cX1_onPlatesOf 23 = .ok (.ifCond .eq 13, 3) := by decide +kernel
theorem dX1_onPlatesOf_26 : decode cX1_onPlatesOf 26 = .ok (.iload_n 3, 1) := by decide +kernel
theorem dX1_onPlatesOf_27 : decode cX1_onPlatesOf 27 = .ok (.aload_n 0, 1) := by decide +kernel
theorem dX1_onPlatesOf_28 : decode cX1_onPlatesOf 28 = .ok (.iload 4, 2) := by decide +kernel
theorem dX1_onPlatesOf_30 : decode cX1_onPlatesOf 30 = .ok (.iload_n 2, 1) := by decide +kernel
theorem dX1_onPlatesOf_31 : decode cX1_onPlatesOf 31 = .ok (.invokevirtual 71, 3) := by decide +kernel
theorem dX1_onPlatesOf_34 : decode cX1_onPlatesOf 34 = .ok (.iadd, 1) := by decide +kernel
theorem dX1_onPlatesOf_35 : decode cX1_onPlatesOf 35 = .ok (.istore_n 3, 1) := by decide +kernel
theorem dX1_onPlatesOf_36 : decode cX1_onPlatesOf 36 = .ok (.iinc 4 1, 3) := by decide +kernel
theorem dX1_onPlatesOf_39 : decode cX1_onPlatesOf 39 = .ok (.goto (-34), 3) := by decide +kernel
theorem dX1_onPlatesOf_42 : decode cX1_onPlatesOf 42 = .ok (.iload_n 3, 1) := by decide +kernel
theorem dX1_onPlatesOf_43 : decode cX1_onPlatesOf 43 = .ok (.ireturn, 1) := by decide +kernel
theorem dX8_everybody_0 : decode cX8_everybody 0 = .ok (.iconst 1, 1) := by decide +kernel
theorem dX8_everybody_1 : decode cX8_everybody 1 = .ok (.aload_n 0, 1) := by decide +kernel
theorem dX8_everybody_2 : decode cX8_everybody 2 = .ok (.getfield 28, 3) := by decide +kernel
theorem dX8_everybody_5 : decode cX8_everybody 5 = .ok (.ishl, 1) := by decide +kernel
theorem dX8_everybody_6 : decode cX8_everybody 6 = .ok (.iconst 1, 1) := by decide +kernel
theorem dX8_everybody_7 : decode cX8_everybody 7 = .ok (.isub, 1) := by decide +kernel
theorem dX8_everybody_8 : decode cX8_everybody 8 = .ok (.ireturn, 1) := by decide +kernel
theorem dX8_hasDish_0 : decode cX8_hasDish 0 = .ok (.iload_n 1, 1) := by decide +kernel
theorem dX8_hasDish_1 : decode cX8_hasDish 1 = .ok (.ifCond .lt 15, 3) := by decide +kernel
theorem dX8_hasDish_4 : decode cX8_hasDish 4 = .ok (.iload_n 1, 1) := by decide +kernel
theorem dX8_hasDish_5 : decode cX8_hasDish 5 = .ok (.aload_n 0, 1) := by decide +kernel
theorem dX8_hasDish_6 : decode cX8_hasDish 6 = .ok (.getfield 32, 3) := by decide +kernel
theorem dX8_hasDish_9 : decode cX8_hasDish 9 = .ok (.if_icmp .ge 7, 3) := by decide +kernel
theorem dX8_hasDish_12 : decode cX8_hasDish 12 = .ok (.iconst 1, 1) := by decide +kernel
theorem dX8_hasDish_13 : decode cX8_hasDish 13 = .ok (.goto 4, 3) := by decide +kernel
theorem dX8_hasDish_16 : decode cX8_hasDish 16 = .ok (.iconst 0, 1) := by decide +kernel
theorem dX8_hasDish_17 : decode cX8_hasDish 17 = .ok (.ireturn, 1) := by decide +kernel
theorem dX8_hasPerson_0 : decode cX8_hasPerson 0 = .ok (.iload_n 1, 1) := by decide +kernel
theorem dX8_hasPerson_1 : decode cX8_hasPerson 1 = .ok (.ifCond .lt 15, 3) := by decide +kernel
theorem dX8_hasPerson_4 : decode cX8_hasPerson 4 = .ok (.iload_n 1, 1) := by decide +kernel
theorem dX8_hasPerson_5 : decode cX8_hasPerson 5 = .ok (.aload_n 0, 1) := by decide +kernel
theorem dX8_hasPerson_6 : decode cX8_hasPerson 6 = .ok (.getfield 28, 3) := by decide +kernel
theorem dX8_hasPerson_9 : decode cX8_hasPerson 9 = .ok (.if_icmp .ge 7, 3) := by decide +kernel
theorem dX8_hasPerson_12 : decode cX8_hasPerson 12 = .ok (.iconst 1, 1) := by decide +kernel
theorem dX8_hasPerson_13 : decode cX8_hasPerson 13 = .ok (.goto 4, 3) := by decide +kernel
theorem dX8_hasPerson_16 : decode cX8_hasPerson 16 = .ok (.iconst 0, 1) := by decide +kernel
theorem dX8_hasPerson_17 : decode cX8_hasPerson 17 = .ok (.ireturn, 1) := by decide +kernel
theorem dX9_readFrom_0 : decode cX9_readFrom 0 = .ok (.aload_n 0, 1) := by decide +kernel
theorem dX9_readFrom_1 : decode cX9_readFrom 1 = .ok (.getfield 12, 3) := by decide +kernel
theorem dX9_readFrom_4 : decode cX9_readFrom 4 = .ok (.invokevirtual 34, 3) := by decide +kernel
theorem dX9_readFrom_7 : decode cX9_readFrom 7 = .ok (.aload_n 0, 1) := by decide +kernel
theorem dX9_readFrom_8 : decode cX9_readFrom 8 = .ok (.getfield 23, 3) := by decide +kernel
theorem dX9_readFrom_11 : decode cX9_readFrom 11 = .ok (.invokevirtual 37, 3) := by decide +kernel
theorem dX9_readFrom_14 : decode cX9_readFrom 14 = .ok (.aload_n 0, 1) := by decide +kernel
theorem dX9_readFrom_15 : decode cX9_readFrom 15 = .ok (.iconst 0, 1) := by decide +kernel
theorem dX9_readFrom_16 : decode cX9_readFrom 16 = .ok (.putfield 27, 3) := by decide +kernel
theorem dX9_readFrom_19 : decode cX9_readFrom 19 = .ok (.aload_n 0, 1) := by decide +kernel
theorem dX9_readFrom_20 : decode cX9_readFrom 20 = .ok (.iconst 0, 1) := by decide +kernel
theorem dX9_readFrom_21 : decode cX9_readFrom 21 = .ok (.putfield 31, 3) := by decide +kernel
theorem dX9_readFrom_24 : decode cX9_readFrom 24 = .ok (.aload_n 1, 1) := by decide +kernel
theorem dX9_readFrom_25 : decode cX9_readFrom 25 = .ok (.sipush 900, 3) := by decide +kernel
theorem dX9_readFrom_28 : decode cX9_readFrom 28 = .ok (.invokevirtual 38, 3) := by decide +kernel
theorem dX9_readFrom_31 : decode cX9_readFrom 31 = .ok (.iconst 0, 1) := by decide +kernel
theorem dX9_readFrom_32 : decode cX9_readFrom 32 = .ok (.istore_n 2, 1) := by decide +kernel
theorem dX9_readFrom_33 : decode cX9_readFrom 33 = .ok (.iload_n 2, 1) := by decide +kernel
theorem dX9_readFrom_34 : decode cX9_readFrom 34 = .ok (.sipush 900, 3) := by decide +kernel
theorem dX9_readFrom_37 : decode cX9_readFrom 37 = .ok (.if_icmp .ge 26, 3) := by decide +kernel
theorem dX9_readFrom_40 : decode cX9_readFrom 40 = .ok (.aload_n 1, 1) := by decide +kernel
theorem dX9_readFrom_41 : decode cX9_readFrom 41 = .ok (.getfield 44, 3) := by decide +kernel
theorem dX9_readFrom_44 : decode cX9_readFrom 44 = .ok (.bipush 102, 2) := by decide +kernel
theorem dX9_readFrom_46 : decode cX9_readFrom 46 = .ok (.if_icmp .eq 17, 3) := by decide +kernel
theorem dX9_readFrom_49 : decode cX9_readFrom 49 = .ok (.aload_n 0, 1) := by decide +kernel
theorem dX9_readFrom_50 : decode cX9_readFrom 50 = .ok (.aload_n 1, 1) := by decide +kernel
theorem dX9_readFrom_51 : decode cX9_readFrom 51 = .ok (.invokevirtual 48, 3) := by decide +kernel
theorem dX9_readFrom_54 : decode cX9_readFrom 54 = .ok (.ifCond .eq 9, 3) := by decide +kernel
theorem dX9_readFrom_57 : decode cX9_readFrom 57 = .ok (.iinc 2 1, 3) := by decide +kernel
theorem dX9_readFrom_60 : decode cX9_readFrom 60 = .ok (.goto (-27), 3) := by decide +kernel
theorem dX9_readFrom_63 : decode cX9_readFrom 63 = .ok (.iload_n 2, 1) := by decide +kernel
theorem dX9_readFrom_64 : decode cX9_readFrom 64 = .ok (.ireturn, 1) := by decide +kernel
theorem dX9_readLine_0 : decode cX9_readLine 0 = .ok (.aload_n 1, 1) := by decide +kernel
theorem dX9_readLine_1 : decode cX9_readLine 1 = .ok (.getfield 44, 3) := by decide +kernel
theorem dX9_readLine_4 : decode cX9_readLine 4 = .ok (.tableswitch 66 0 4 #[36, 42, 48, 54, 60], 36) := by decide +kernel
theorem dX9_readLine_40 : decode cX9_readLine 40 = .ok (.aload_n 0, 1) := by decide +kernel
theorem dX9_readLine_41 : decode cX9_readLine 41 = .ok (.aload_n 1, 1) := by decide +kernel
theorem dX9_readLine_42 : decode cX9_readLine 42 = .ok (.invokevirtual 52, 3) := by decide +kernel
theorem dX9_readLine_45 : decode cX9_readLine 45 = .ok (.ireturn, 1) := by decide +kernel
theorem dX9_readLine_46 : decode cX9_readLine 46 = .ok (.aload_n 0, 1) := by decide +kernel
theorem dX9_readLine_47 : decode cX9_readLine 47 = .ok (.aload_n 1, 1) := by decide +kernel
theorem dX9_readLine_48 : decode cX9_readLine 48 = .ok (.invokevirtual 55, 3) := by decide +kernel
theorem dX9_readLine_51 : decode cX9_readLine 51 = .ok (.ireturn, 1) := by decide +kernel
theorem dX9_readLine_52 : decode cX9_readLine 52 = .ok (.aload_n 0, 1) := by decide +kernel
theorem dX9_readLine_53 : decode cX9_readLine 53 = .ok (.aload_n 1, 1) := by decide +kernel
theorem dX9_readLine_54 : decode cX9_readLine 54 = .ok (.invokevirtual 58, 3) := by decide +kernel
theorem dX9_readLine_57 : decode cX9_readLine 57 = .ok (.ireturn, 1) := by decide +kernel
theorem dX9_readLine_58 : decode cX9_readLine 58 = .ok (.aload_n 0, 1) := by decide +kernel
theorem dX9_readLine_59 : decode cX9_readLine 59 = .ok (.aload_n 1, 1) := by decide +kernel
theorem dX9_readLine_60 : decode cX9_readLine 60 = .ok (.invokevirtual 61, 3) := by decide +kernel
theorem dX9_readLine_63 : decode cX9_readLine 63 = .ok (.ireturn, 1) := by decide +kernel
theorem dX9_readLine_64 : decode cX9_readLine 64 = .ok (.aload_n 0, 1) := by decide +kernel
theorem dX9_readLine_65 : decode cX9_readLine 65 = .ok (.aload_n 1, 1) := by decide +kernel
theorem dX9_readLine_66 : decode cX9_readLine 66 = .ok (.invokevirtual 64, 3) := by decide +kernel
theorem dX9_readLine_69 : decode cX9_readLine 69 = .ok (.ireturn, 1) := by decide +kernel
theorem dX9_readLine_70 : decode cX9_readLine 70 = .ok (.aload_n 1, 1) := by decide +kernel
theorem dX9_readLine_71 : decode cX9_readLine 71 = .ok (.iconst 1, 1) := by decide +kernel
theorem dX9_readLine_72 : decode cX9_readLine 72 = .ok (.invokevirtual 67, 3) := by decide +kernel
theorem dX9_readLine_75 : decode cX9_readLine 75 = .ok (.ireturn, 1) := by decide +kernel
theorem dX9_readPerson_0 : decode cX9_readPerson 0 = .ok (.aload_n 0, 1) := by decide +kernel
theorem dX9_readPerson_1 : decode cX9_readPerson 1 = .ok (.getfield 12, 3) := by decide +kernel
theorem dX9_readPerson_4 : decode cX9_readPerson 4 = .ok (.getfield 85, 3) := by decide +kernel
theorem dX9_readPerson_7 : decode cX9_readPerson 7 = .ok (.bipush 7, 2) := by decide +kernel
theorem dX9_readPerson_9 : decode cX9_readPerson 9 = .ok (.if_icmp .lt 9, 3) := by decide +kernel
theorem dX9_readPerson_12 : decode cX9_readPerson 12 = .ok (.aload_n 1, 1) := by decide +kernel
theorem dX9_readPerson_13 : decode cX9_readPerson 13 = .ok (.iconst 4, 1) := by decide +kernel
theorem dX9_readPerson_14 : decode cX9_readPerson 14 = .ok (.invokevirtual 67, 3) := by decide +kernel
theorem dX9_readPerson_17 : decode cX9_readPerson 17 = .ok (.ireturn, 1) := by decide +kernel
theorem dX9_readPerson_18 : decode cX9_readPerson 18 = .ok (.aload_n 1, 1) := by decide +kernel
theorem dX9_readPerson_19 : decode cX9_readPerson 19 = .ok (.invokevirtual 82, 3) := by decide +kernel
theorem dX9_readPerson_22 : decode cX9_readPerson 22 = .ok (.aload_n 1, 1) := by decide +kernel
theorem dX9_readPerson_23 : decode cX9_readPerson 23 = .ok (.getfield 71, 3) := by decide +kernel
theorem dX9_readPerson_26 : decode cX9_readPerson 26 = .ok (.lstore_n 2, 1) := by decide +kernel
theorem dX9_readPerson_27 : decode cX9_readPerson 27 = .ok (.aload_n 0, 1) := by decide +kernel
theorem dX9_readPerson_28 : decode cX9_readPerson 28 = .ok (.aload_n 1, 1) := by decide +kernel
theorem dX9_readPerson_29 : decode cX9_readPerson 29 = .ok (.invokevirtual 88, 3) := by decide +kernel
theorem dX9_readPerson_32 : decode cX9_readPerson 32 = .ok (.ifCond .ne 5, 3) := by decide +kernel
theorem dX9_readPerson_35 : decode cX9_readPerson 35 = .ok (.iconst 0, 1) := by decide +kernel
theorem dX9_readPerson_36 : decode cX9_readPerson 36 = .ok (.ireturn, 1) := by decide +kernel
theorem dX9_readPerson_37 : decode cX9_readPerson 37 = .ok (.aload_n 1, 1) := by decide +kernel
theorem dX9_readPerson_38 : decode cX9_readPerson 38 = .ok (.iconst 0, 1) := by decide +kernel
theorem dX9_readPerson_39 : decode cX9_readPerson 39 = .ok (.bipush 20, 2) := by decide +kernel
theorem dX9_readPerson_41 : decode cX9_readPerson 41 = .ok (.invokevirtual 91, 3) := by decide +kernel
theorem dX9_readPerson_44 : decode cX9_readPerson 44 = .ok (.istore 4, 2) := by decide +kernel
theorem dX9_readPerson_46 : decode cX9_readPerson 46 = .ok (.iload 4, 2) := by decide +kernel
theorem dX9_readPerson_48 : decode cX9_readPerson 48 = .ok (.iconst (-1), 1) := by decide +kernel
theorem dX9_readPerson_49 : decode cX9_readPerson 49 = .ok (.if_icmp .ne 5, 3) := by decide +kernel
theorem dX9_readPerson_52 : decode cX9_readPerson 52 = .ok (.iconst 0, 1) := by decide +kernel
theorem dX9_readPerson_53 : decode cX9_readPerson 53 = .ok (.ireturn, 1) := by decide +kernel
theorem dX9_readPerson_54 : decode cX9_readPerson 54 = .ok (.iconst (-1), 1) := by decide +kernel
theorem dX9_readPerson_55 : decode cX9_readPerson 55 = .ok (.istore 5, 2) := by decide +kernel
theorem dX9_readPerson_57 : decode cX9_readPerson 57 = .ok (.aload_n 1, 1) := by decide +kernel
theorem dX9_readPerson_58 : decode cX9_readPerson 58 = .ok (.getfield 44, 3) := by decide +kernel
theorem dX9_readPerson_61 : decode cX9_readPerson 61 = .ok (.iconst 5, 1) := by decide +kernel
theorem dX9_readPerson_62 : decode cX9_readPerson 62 = .ok (.if_icmp .ne 32, 3) := by decide +kernel
theorem dX9_readPerson_65 : decode cX9_readPerson 65 = .ok (.aload_n 1, 1) := by decide +kernel
theorem dX9_readPerson_66 : decode cX9_readPerson 66 = .ok (.invokevirtual 82, 3) := by decide +kernel
theorem dX9_readPerson_69 : decode cX9_readPerson 69 = .ok (.aload_n 1, 1) := by decide +kernel
theorem dX9_readPerson_70 : decode cX9_readPerson 70 = .ok (.aload_n 0, 1) := by decide +kernel
theorem dX9_readPerson_71 : decode cX9_readPerson 71 = .ok (.getfield 12, 3) := by decide +kernel
theorem dX9_readPerson_74 : decode cX9_readPerson 74 = .ok (.aload_n 1, 1) := by decide +kernel
theorem dX9_readPerson_75 : decode cX9_readPerson 75 = .ok (.getfield 71, 3) := by decide +kernel
theorem dX9_readPerson_78 : decode cX9_readPerson 78 = .ok (.invokevirtual 75, 3) := by decide +kernel
theorem dX9_readPerson_81 : decode cX9_readPerson 81 = .ok (.invokevirtual 95, 3) := by decide +kernel
theorem dX9_readPerson_84 : decode cX9_readPerson 84 = .ok (.istore 5, 2) := by decide +kernel
theorem dX9_readPerson_86 : decode cX9_readPerson 86 = .ok (.iload 5, 2) := by decide +kernel
theorem dX9_readPerson_88 : decode cX9_readPerson 88 = .ok (.iconst (-1), 1) := by decide +kernel
theorem dX9_readPerson_89 : decode cX9_readPerson 89 = .ok (.if_icmp .ne 5, 3) := by decide +kernel
theorem dX9_readPerson_92 : decode cX9_readPerson 92 = .ok (.iconst 0, 1) := by decide +kernel
theorem dX9_readPerson_93 : decode cX9_readPerson 93 = .ok (.ireturn, 1) := by decide +kernel
theorem dX9_readPerson_94 : decode cX9_readPerson 94 = .ok (.aload_n 0, 1) := by decide +kernel
theorem dX9_readPerson_95 : decode cX9_readPerson 95 = .ok (.getfield 12, 3) := by decide +kernel
theorem dX9_readPerson_98 : decode cX9_readPerson 98 = .ok (.getfield 99, 3) := by decide +kernel
theorem dX9_readPerson_101 : decode cX9_readPerson 101 = .ok (.aload_n 0, 1) := by decide +kernel
theorem dX9_readPerson_102 : decode cX9_readPerson 102 = .ok (.getfield 12, 3) := by decide +kernel
theorem dX9_readPerson_105 : decode cX9_readPerson 105 = .ok (.getfield 85, 3) := by decide +kernel
theorem dX9_readPerson_108 : decode cX9_readPerson 108 = .ok (.lload_n 2, 1) := by decide +kernel
theorem dX9_readPerson_109 : decode cX9_readPerson 109 = .ok (.lastore, 1) := by decide +kernel
theorem dX9_readPerson_110 : decode cX9_readPerson 110 = .ok (.aload_n 0, 1) := by decide +kernel
theorem dX9_readPerson_111 : decode cX9_readPerson 111 = .ok (.getfield 12, 3) := by decide +kernel
theorem dX9_readPerson_114 : decode cX9_readPerson 114 = .ok (.getfield 103, 3) := by decide +kernel
theorem dX9_readPerson_117 : decode cX9_readPerson 117 = .ok (.aload_n 0, 1) := by decide +kernel
theorem dX9_readPerson_118 : decode cX9_readPerson 118 = .ok (.getfield 12, 3) := by decide +kernel
theorem dX9_readPerson_121 : decode cX9_readPerson 121 = .ok (.getfield 85, 3) := by decide +kernel
theorem dX9_readPerson_124 : decode cX9_readPerson 124 = .ok (.iload 4, 2) := by decide +kernel
theorem dX9_readPerson_126 : decode cX9_readPerson 126 = .ok (.iastore, 1) := by decide +kernel
theorem dX9_readPerson_127 : decode cX9_readPerson 127 = .ok (.aload_n 0, 1) := by decide +kernel
theorem dX9_readPerson_128 : decode cX9_readPerson 128 = .ok (.getfield 12, 3) := by decide +kernel
theorem dX9_readPerson_131 : decode cX9_readPerson 131 = .ok (.getfield 107, 3) := by decide +kernel
theorem dX9_readPerson_134 : decode cX9_readPerson 134 = .ok (.aload_n 0, 1) := by decide +kernel
theorem dX9_readPerson_135 : decode cX9_readPerson 135 = .ok (.getfield 12, 3) := by decide +kernel
theorem dX9_readPerson_138 : decode cX9_readPerson 138 = .ok (.getfield 85, 3) := by decide +kernel
theorem dX9_readPerson_141 : decode cX9_readPerson 141 = .ok (.iload 5, 2) := by decide +kernel
theorem dX9_readPerson_143 : decode cX9_readPerson 143 = .ok (.iastore, 1) := by decide +kernel
theorem dX9_readPerson_144 : decode cX9_readPerson 144 = .ok (.aload_n 0, 1) := by decide +kernel
theorem dX9_readPerson_145 : decode cX9_readPerson 145 = .ok (.getfield 12, 3) := by decide +kernel
theorem dX9_readPerson_148 : decode cX9_readPerson 148 = .ok (.dup, 1) := by decide +kernel
theorem dX9_readPerson_149 : decode cX9_readPerson 149 = .ok (.getfield 85, 3) := by decide +kernel
theorem dX9_readPerson_152 : decode cX9_readPerson 152 = .ok (.iconst 1, 1) := by decide +kernel
theorem dX9_readPerson_153 : decode cX9_readPerson 153 = .ok (.iadd, 1) := by decide +kernel
theorem dX9_readPerson_154 : decode cX9_readPerson 154 = .ok (.putfield 85, 3) := by decide +kernel
theorem dX9_readPerson_157 : decode cX9_readPerson 157 = .ok (.aload_n 1, 1) := by decide +kernel
theorem dX9_readPerson_158 : decode cX9_readPerson 158 = .ok (.bipush 59, 2) := by decide +kernel
theorem dX9_readPerson_160 : decode cX9_readPerson 160 = .ok (.invokevirtual 110, 3) := by decide +kernel
theorem dX9_readPerson_163 : decode cX9_readPerson 163 = .ok (.ireturn, 1) := by decide +kernel
theorem dX9_readPlate_0 : decode cX9_readPlate 0 = .ok (.aload_n 1, 1) := by decide +kernel
theorem dX9_readPlate_1 : decode cX9_readPlate 1 = .ok (.invokevirtual 82, 3) := by decide +kernel
theorem dX9_readPlate_4 : decode cX9_readPlate 4 = .ok (.aload_n 1, 1) := by decide +kernel
theorem dX9_readPlate_5 : decode cX9_readPlate 5 = .ok (.aload_n 0, 1) := by decide +kernel
theorem dX9_readPlate_6 : decode cX9_readPlate 6 = .ok (.getfield 12, 3) := by decide +kernel
theorem dX9_readPlate_9 : decode cX9_readPlate 9 = .ok (.aload_n 1, 1) := by decide +kernel
theorem dX9_readPlate_10 : decode cX9_readPlate 10 = .ok (.getfield 71, 3) := by decide +kernel
theorem dX9_readPlate_13 : decode cX9_readPlate 13 = .ok (.invokevirtual 75, 3) := by decide +kernel
theorem dX9_readPlate_16 : decode cX9_readPlate 16 = .ok (.invokevirtual 95, 3) := by decide +kernel
theorem dX9_readPlate_19 : decode cX9_readPlate 19 = .ok (.istore_n 2, 1) := by decide +kernel
theorem dX9_readPlate_20 : decode cX9_readPlate 20 = .ok (.iload_n 2, 1) := by decide +kernel
theorem dX9_readPlate_21 : decode cX9_readPlate 21 = .ok (.iconst (-1), 1) := by decide +kernel
theorem dX9_readPlate_22 : decode cX9_readPlate 22 = .ok (.if_icmp .ne 5, 3) := by decide +kernel
theorem dX9_readPlate_25 : decode cX9_readPlate 25 = .ok (.iconst 0, 1) := by decide +kernel
theorem dX9_readPlate_26 : decode cX9_readPlate 26 = .ok (.ireturn, 1) := by decide +kernel
theorem dX9_readPlate_27 : decode cX9_readPlate 27 = .ok (.aload_n 0, 1) := by decide +kernel
theorem dX9_readPlate_28 : decode cX9_readPlate 28 = .ok (.getfield 12, 3) := by decide +kernel
theorem dX9_readPlate_31 : decode cX9_readPlate 31 = .ok (.aload_n 1, 1) := by decide +kernel
theorem dX9_readPlate_32 : decode cX9_readPlate 32 = .ok (.getfield 71, 3) := by decide +kernel
theorem dX9_readPlate_35 : decode cX9_readPlate 35 = .ok (.invokevirtual 79, 3) := by decide +kernel
theorem dX9_readPlate_38 : decode cX9_readPlate 38 = .ok (.istore_n 3, 1) := by decide +kernel
theorem dX9_readPlate_39 : decode cX9_readPlate 39 = .ok (.aload_n 1, 1) := by decide +kernel
theorem dX9_readPlate_40 : decode cX9_readPlate 40 = .ok (.getfield 44, 3) := by decide +kernel
theorem dX9_readPlate_43 : decode cX9_readPlate 43 = .ok (.bipush 100, 2) := by decide +kernel
theorem dX9_readPlate_45 : decode cX9_readPlate 45 = .ok (.if_icmp .ne 26, 3) := by decide +kernel
theorem dX9_readPlate_48 : decode cX9_readPlate 48 = .ok (.iload_n 3, 1) := by decide +kernel
theorem dX9_readPlate_49 : decode cX9_readPlate 49 = .ok (.iconst (-1), 1) := by decide +kernel
theorem dX9_readPlate_50 : decode cX9_readPlate 50 = .ok (.if_icmp .eq 21, 3) := by decide +kernel
theorem dX9_readPlate_53 : decode cX9_readPlate 53 = .ok (.aload_n 0, 1) := by decide +kernel
theorem dX9_readPlate_54 : decode cX9_readPlate 54 = .ok (.getfield 23, 3) := by decide +kernel
theorem dX9_readPlate_57 : decode cX9_readPlate 57 = .ok (.iload_n 2, 1) := by decide +kernel
theorem dX9_readPlate_58 : decode cX9_readPlate 58 = .ok (.iload_n 3, 1) := by decide +kernel
theorem dX9_readPlate_59 : decode cX9_readPlate 59 = .ok (.invokevirtual 125, 3) := by decide +kernel
theorem dX9_readPlate_62 : decode cX9_readPlate 62 = .ok (.ifCond .le 9, 3) := by decide +kernel
theorem dX9_readPlate_65 : decode cX9_readPlate 65 = .ok (.aload_n 1, 1) := by decide +kernel
theorem dX9_readPlate_66 : decode cX9_readPlate 66 = .ok (.iconst 3, 1) := by decide +kernel
theorem dX9_readPlate_67 : decode cX9_readPlate 67 = .ok (.invokevirtual 67, 3) := by decide +kernel
theorem dX9_readPlate_70 : decode cX9_readPlate 70 = .ok (.ireturn, 1) := by decide +kernel
theorem dX9_readPlate_71 : decode cX9_readPlate 71 = .ok (.aload_n 1, 1) := by decide +kernel
theorem dX9_readPlate_72 : decode cX9_readPlate 72 = .ok (.iload_n 3, 1) := by decide +kernel
theorem dX9_readPlate_73 : decode cX9_readPlate 73 = .ok (.invokevirtual 95, 3) := by decide +kernel
theorem dX9_readPlate_76 : decode cX9_readPlate 76 = .ok (.iconst (-1), 1) := by decide +kernel
theorem dX9_readPlate_77 : decode cX9_readPlate 77 = .ok (.if_icmp .ne 5, 3) := by decide +kernel
theorem dX9_readPlate_80 : decode cX9_readPlate 80 = .ok (.iconst 0, 1) := by decide +kernel
theorem dX9_readPlate_81 : decode cX9_readPlate 81 = .ok (.ireturn, 1) := by decide +kernel
theorem dX9_readPlate_82 : decode cX9_readPlate 82 = .ok (.aload_n 1, 1) := by decide +kernel
theorem dX9_readPlate_83 : decode cX9_readPlate 83 = .ok (.iconst 1, 1) := by decide +kernel
theorem dX9_readPlate_84 : decode cX9_readPlate 84 = .ok (.bipush 40, 2) := by decide +kernel
theorem dX9_readPlate_86 : decode cX9_readPlate 86 = .ok (.invokevirtual 91, 3) := by decide +kernel
theorem dX9_readPlate_89 : decode cX9_readPlate 89 = .ok (.istore 4, 2) := by decide +kernel
theorem dX9_readPlate_91 : decode cX9_readPlate 91 = .ok (.iload 4, 2) := by decide +kernel
theorem dX9_readPlate_93 : decode cX9_readPlate 93 = .ok (.iconst (-1), 1) := by decide +kernel
theorem dX9_readPlate_94 : decode cX9_readPlate 94 = .ok (.if_icmp .ne 5, 3) := by decide +kernel
theorem dX9_readPlate_97 : decode cX9_readPlate 97 = .ok (.iconst 0, 1) := by decide +kernel
theorem dX9_readPlate_98 : decode cX9_readPlate 98 = .ok (.ireturn, 1) := by decide +kernel
theorem dX9_readPlate_99 : decode cX9_readPlate 99 = .ok (.aload_n 0, 1) := by decide +kernel
theorem dX9_readPlate_100 : decode cX9_readPlate 100 = .ok (.getfield 23, 3) := by decide +kernel
theorem dX9_readPlate_103 : decode cX9_readPlate 103 = .ok (.iload_n 2, 1) := by decide +kernel
theorem dX9_readPlate_104 : decode cX9_readPlate 104 = .ok (.iload_n 3, 1) := by decide +kernel
theorem dX9_readPlate_105 : decode cX9_readPlate 105 = .ok (.iload 4, 2) := by decide +kernel
theorem dX9_readPlate_107 : decode cX9_readPlate 107 = .ok (.invokevirtual 128, 3) := by decide +kernel
theorem dX9_readPlate_110 : decode cX9_readPlate 110 = .ok (.aload_n 1, 1) := by decide +kernel
theorem dX9_readPlate_111 : decode cX9_readPlate 111 = .ok (.bipush 59, 2) := by decide +kernel
theorem dX9_readPlate_113 : decode cX9_readPlate 113 = .ok (.invokevirtual 110, 3) := by decide +kernel
theorem dX9_readPlate_116 : decode cX9_readPlate 116 = .ok (.ireturn, 1) := by decide +kernel
theorem rc_5 : Rg 5 5 5 := ⟨by decide, by decide⟩
theorem rc_20 : Rg 20 20 20 := ⟨by decide, by decide⟩
theorem rc_900 : Rg 900 900 900 := ⟨by decide, by decide⟩
set_option maxRecDepth 100000 in
set_option maxHeartbeats 8000000 in
theorem c_X9_readPerson {l : Launch} {D : va_G} {cy : Nat → ClassId} {L : List Nat} {κ ln : Nat → Nat} {R : Nat → Nat → Option Nat} {I : Nat → Nat → Int32} {J : Nat → Nat → Int64} {ow : Nat → Nat × Nat} (W9 : ∀ a ∈ L, Shp L κ ln R ow a) {x : Nat} (hLx : x ∈ L) (hkx : κ x = 9) {a0 : Nat} (hLa0 : a0 ∈ L) (hka0 : κ a0 = 10) (hU : Iv L κ R ow I) : CtI l yX9_readPerson cX9_readPerson 6 (some .boolean) { frames := 2, cells := 0, slots := 0, locals := 44 } D cy L κ ln R I J [.ref x, .ref a0] (fun r I2 J2 => Iv L κ R ow I2 ∧ Fq L κ ow [805, 1007, 1008, 1009, 1011, 1012, 58100, 58200] I I2 ∧ Fq L κ ow [1010, 58000] J J2 ∧ Rg 0 1 r ∧ ((r, TPf R I2 J2 a0, TBf R I2 J2 (rr_ R x 0), CPf R I2 J2 (rr_ R x 1), XPf R I2 J2 x) = fReadPerson (TPf R I J a0) (TBf R I J (rr_ R x 0)) (CPf R I J (rr_ R x 1)) (XPf R I J x)) ∧ (Kt_ L κ R I I2 [rr_ R x 0]) ∧ (Kn_ L κ R J J2 [rr_ R x 0])) := by
  refine CtI.of (by decide +kernel) (Nat.le_of_ble_eq_true rfl) ?_
  intro p e s m below meth c B K
  have C := B.1
  have hF : Fq L κ ow [805, 1007, 1008, 1009, 1011, 1012, 58100, 58200] I I := fq_rf
  have hG : Fq L κ ow [1010, 58000] J J := fq_rf
  obtain ⟨b_1, hb_1, hb_1L, hb_1k⟩ := shp_o (W9 x hLx) hkx 0 8 rfl (by decide)
  obtain ⟨b_2, hb_2, hb_2L, hb_2k, hb_2n, hb_2o⟩ := shp_a (W9 b_1 hb_1L) hb_1k 2 14 7 rfl (by decide)
  obtain ⟨b_3, hb_3, hb_3L, hb_3k, hb_3n, hb_3o⟩ := shp_a (W9 b_1 hb_1L) hb_1k 1 14 7 rfl (by decide)
  obtain ⟨b_4, hb_4, hb_4L, hb_4k, hb_4n, hb_4o⟩ := shp_a (W9 b_1 hb_1L) hb_1k 0 15 7 rfl (by decide)
  obtain ⟨b_5, hb_5, hb_5L, hb_5k, hb_5n, hb_5o⟩ := shp_a (W9 a0 hLa0) hka0 0 13 940 rfl (by decide)
  obtain ⟨b_6, hb_6, hb_6L, hb_6k, hb_6n, hb_6o⟩ := shp_a (W9 a0 hLa0) hka0 1 15 28 rfl (by decide)
  obtain ⟨b_7, hb_7, hb_7L, hb_7k, hb_7n, hb_7o⟩ := shp_a (W9 a0 hLa0) hka0 2 14 901 rfl (by decide)
  obtain ⟨b_8, hb_8, hb_8L, hb_8k, hb_8n, hb_8o⟩ := shp_a (W9 a0 hLa0) hka0 3 14 901 rfl (by decide)
  obtain ⟨b_9, hb_9, hb_9L, hb_9k, hb_9n, hb_9o⟩ := shp_a (W9 a0 hLa0) hka0 4 15 901 rfl (by decide)
  have etqa0 : ∀ I J, TPf R I J a0 = TPq I J a0 b_5 b_6 b_7 b_8 b_9 := fun I J => by simp only [TPf, rr_, Option.getD_some, hb_5, hb_6, hb_7, hb_8, hb_9]
  have wtqa0 : tqw_ L κ ow a0 b_5 b_6 b_7 b_8 b_9 := ⟨⟨hLa0, hb_5L, hb_6L, hb_7L, hb_8L, hb_9L⟩, ⟨(ro_o hka0 (by decide)), (ro_a hb_5k (by decide) hb_5o hka0 rfl), (ro_a hb_6k (by decide) hb_6o hka0 rfl), (ro_a hb_7k (by decide) hb_7o hka0 rfl), (ro_a hb_8k (by decide) hb_8o hka0 rfl), (ro_a hb_9k (by decide) hb_9o hka0 rfl)⟩⟩
  obtain ⟨s_10, hs_10⟩ : ∃ z, TPq I J a0 b_5 b_6 b_7 b_8 b_9 = z := ⟨_, rfl⟩
  obtain ⟨b_11, hb_11, hb_11L, hb_11k, hb_11n, hb_11o⟩ := shp_a (W9 b_1 hb_1L) hb_1k 3 15 6 rfl (by decide)
  have ebqx_0 : ∀ I J, TBf R I J (rr_ R x 0) = TBq I J b_1 b_4 b_2 b_11 := fun I J => by simp only [TBf, rr_, Option.getD_some, hb_4, hb_2, hb_11, hb_1]
  have dbqx_0 : ∀ I J, TBf R I J b_1 = TBq I J b_1 b_4 b_2 b_11 := fun I J => by simp only [TBf, rr_, Option.getD_some, hb_4, hb_2, hb_11, hb_1]
  have wbqx_0 : bqw_ L κ ow b_1 b_4 b_2 b_11 := ⟨⟨hb_1L, hb_4L, hb_2L, hb_11L⟩, ⟨(ro_o hb_1k (by decide)), (ro_a hb_4k (by decide) hb_4o hb_1k rfl), (ro_a hb_2k (by decide) hb_2o hb_1k rfl), (ro_a hb_11k (by decide) hb_11o hb_1k rfl)⟩⟩
  obtain ⟨s_12, hs_12⟩ : ∃ z, TBq I J b_1 b_4 b_2 b_11 = z := ⟨_, rfl⟩
  obtain ⟨b_13, hb_13, hb_13L, hb_13k⟩ := shp_o (W9 x hLx) hkx 1 1 rfl (by decide)
  obtain ⟨b_14, hb_14, hb_14L, hb_14k, hb_14n, hb_14o⟩ := shp_a (W9 b_13 hb_13L) hb_13k 2 14 42 rfl (by decide)
  have ecqx_1 : ∀ I J, CPf R I J (rr_ R x 1) = CPq I J b_13 b_14 := fun I J => by simp only [CPf, rr_, Option.getD_some, hb_14, hb_13]
  have dcqx_1 : ∀ I J, CPf R I J b_13 = CPq I J b_13 b_14 := fun I J => by simp only [CPf, rr_, Option.getD_some, hb_14, hb_13]
  have wcqx_1 : cqw_ L κ ow b_13 b_14 := ⟨⟨hb_13L, hb_14L⟩, ⟨(ro_o hb_13k (by decide)), (ro_a hb_14k (by decide) hb_14o hb_13k rfl)⟩⟩
  obtain ⟨s_15, hs_15⟩ : ∃ z, CPq I J b_13 b_14 = z := ⟨_, rfl⟩
  have exqx : ∀ I J, XPf R I J x = XPq I J x := fun I J => by simp only [XPf, rr_, Option.getD_some]
  have wxqx : xqw_ L κ ow x := ⟨hLx, (ro_o hkx (by decide))⟩
  obtain ⟨s_16, hs_16⟩ : ∃ z, XPq I J x = z := ⟨_, rfl⟩
  refine g_lo (is := [0, 1]) (lo2 := [(0, .ref x), (1, .ref a0)]) rfl ?_
  refine g_aload_n C 0 dX9_readPerson_0 rfl rfl ?_
  refine g_getR C K hLx hkx f_9_12 hb_1 dX9_readPerson_1 ?_
  obtain ⟨x_17, hx_17, rx_17⟩ := ex_get (I := I) (a := b_1) (j := 5) (lo := 0) (hi := 7) hU.1 hb_1L (ro_o hb_1k (by decide)) rfl
  have f_18 : s_12.persons = x_17 := (congrArg TB_.persons hs_12).symm.trans hx_17
  refine g_getI C K hb_1L hb_1k f_9_85 (v := x_17) hx_17 dX9_readPerson_4 ?_
  refine g_bipush C (v := 7) dX9_readPerson_7 (by decide) ?_
  refine g_icmp_lt C (tgt := 18) dX9_readPerson_9 (by decide) (fun h_19 => ?_) (fun h_19 => ?_)
  · skip
    have r_20 := lt_l (hi := 6) (h_19) rx_17 rc_7 (by decide)
    refine g_aload_n C 1 dX9_readPerson_18 rfl rfl ?_
    refine g_callVV C K (c_X10_advance W9 hLa0 hka0   hU) hLa0 hka0 (by decide) rfl v_9_82 rfl ⟨rfl, rfl⟩ ⟨Nat.le_of_ble_eq_true rfl, Nat.le_of_ble_eq_true rfl⟩ (Nat.le_of_ble_eq_true rfl) ⟨Nat.le_of_ble_eq_true rfl, Nat.le_of_ble_eq_true rfl⟩ dX9_readPerson_19 rfl (st := []) (fun I_22 J_23 h_24 => ?_)
    obtain ⟨hUI_22, hFI_22, hGJ_23, fx_21⟩ := h_24
    have hF_25 := fq_tr hF hFI_22 (by decide)
    have hG_26 := fq_tr hG hGJ_23 (by decide)
    obtain ⟨s_28, hs_28⟩ : ∃ z, TPq I_22 J_23 a0 b_5 b_6 b_7 b_8 b_9 = z := ⟨_, rfl⟩
    have c_27 : fAdvance (s_10) = s_28 := by have q := fx_21; simp only [etqa0, hs_10, hs_28] at q; exact q.symm
    have hs_29 : TBq I_22 J_23 b_1 b_4 b_2 b_11 = s_12 := (bq_fq wbqx_0 hFI_22 hGJ_23 (by decide) (by decide)).trans hs_12
    have hs_30 : CPq I_22 J_23 b_13 b_14 = s_15 := (cq_fq wcqx_1 hFI_22 hGJ_23 (by decide) (by decide)).trans hs_15
    have hs_31 : XPq I_22 J_23 x = s_16 := (xq_fq wxqx hFI_22 hGJ_23 (by decide) (by decide)).trans hs_16
    have kt_32 : Kt_ L κ R I I_22 [rr_ R x 0] := (kt_fq W9 kt_rf hFI_22 (by decide))
    have kn_33 : Kn_ L κ R J J_23 [rr_ R x 0] := (kn_fq W9 kn_rf hGJ_23 (by decide))
    refine g_aload_n C 1 dX9_readPerson_22 rfl rfl ?_
    obtain ⟨y_34, hy_34⟩ : ∃ z, J_23 a0 10 = z := ⟨_, rfl⟩
    have f_35 : s_28.value = y_34 := (congrArg TP_.value hs_28).symm.trans hy_34
    refine g_getJ C K hLa0 hka0 f_9_71 (v := y_34) hy_34 dX9_readPerson_23 ?_
    refine g_lstore_n C dX9_readPerson_26 rfl (by decide) (lo2 := [(2, .long y_34), (0, .ref x), (1, .ref a0)]) rfl ?_
    refine g_aload_n C 1 dX9_readPerson_27 rfl rfl ?_
    refine g_aload_n C 2 dX9_readPerson_28 rfl rfl ?_
    refine g_callVI C K (c_X9_newName W9 hLx hkx hLa0 hka0  hUI_22) hLx hkx (by decide) rfl v_9_88 rfl ⟨rfl, rfl⟩ ⟨Nat.le_of_ble_eq_true rfl, Nat.le_of_ble_eq_true rfl⟩ (Nat.le_of_ble_eq_true rfl) ⟨Nat.le_of_ble_eq_true rfl, Nat.le_of_ble_eq_true rfl⟩ dX9_readPerson_29 rfl (st := []) (fun x_36 I_37 J_38 h_39 => ?_)
    obtain ⟨hUI_37, hFI_37, hGJ_38, rx_36, fx_36, ex_36⟩ := h_39
    have hF_40 := fq_tr hF_25 hFI_37 (by decide)
    have hG_41 := fq_tr hG_26 hGJ_38 (by decide)
    obtain ⟨s_43, hs_43⟩ : ∃ z, TPq I_37 J_38 a0 b_5 b_6 b_7 b_8 b_9 = z := ⟨_, rfl⟩
    obtain ⟨s_44, hs_44⟩ : ∃ z, TBq I_37 J_38 b_1 b_4 b_2 b_11 = z := ⟨_, rfl⟩
    obtain ⟨s_45, hs_45⟩ : ∃ z, CPq I_37 J_38 b_13 b_14 = z := ⟨_, rfl⟩
    obtain ⟨s_46, hs_46⟩ : ∃ z, XPq I_37 J_38 x = z := ⟨_, rfl⟩
    have c_42 : fNewName (s_28) (s_12) (s_15) (s_16) = (x_36, s_43, s_44, s_45, s_46) := by have q := fx_36; simp only [etqa0, ebqx_0, dbqx_0, ecqx_1, dcqx_1, exqx, hs_28, hs_29, hs_30, hs_31, hs_43, hs_44, hs_45, hs_46] at q; exact q.symm
    have kt_47 : Kt_ L κ R I I_37 [rr_ R x 0] := (kt_t kt_32 ex_36 (by simp only [rr_s hb_1]; simp only [List.mem_cons, List.not_mem_nil, or_false, forall_eq, true_or, or_true]))
    have kn_48 : Kn_ L κ R J J_38 [rr_ R x 0] := (kn_fq W9 kn_33 hGJ_38 (by decide))
    refine g_if_ne C (tgt := 37) dX9_readPerson_32 (by decide) (fun h_49 => ?_) (fun h_49 => ?_)
    · skip
      have n_50 : ¬ x_36 = 0 := h_49
      have r_51 := ne_lo (lo := 1) n_50 rx_36 rc_0 rfl (by decide)
      refine g_aload_n C 2 dX9_readPerson_37 rfl rfl ?_
      refine g_iconst C (v := 0) dX9_readPerson_38 (by decide) ?_
      refine g_bipush C (v := 20) dX9_readPerson_39 (by decide) ?_
      refine g_callVI C K (c_X10_takeNumber W9 hLa0 hka0 0 20 (rg_w rc_0 (by decide) (by decide)) (rg_w rc_20 (by decide) (by decide)) hUI_37) hLa0 hka0 (by decide) rfl v_9_91 rfl ⟨rfl, rfl⟩ ⟨Nat.le_of_ble_eq_true rfl, Nat.le_of_ble_eq_true rfl⟩ (Nat.le_of_ble_eq_true rfl) ⟨Nat.le_of_ble_eq_true rfl, Nat.le_of_ble_eq_true rfl⟩ dX9_readPerson_41 rfl (st := []) (fun x_52 I_53 J_54 h_55 => ?_)
      obtain ⟨hUI_53, hFI_53, hGJ_54, rx_52, fx_52⟩ := h_55
      have hF_56 := fq_tr hF_40 hFI_53 (by decide)
      have hG_57 := fq_tr hG_41 hGJ_54 (by decide)
      obtain ⟨s_59, hs_59⟩ : ∃ z, TPq I_53 J_54 a0 b_5 b_6 b_7 b_8 b_9 = z := ⟨_, rfl⟩
      have c_58 : fTakeNumber (0) (20) (s_43) = (x_52, s_59) := by have q := fx_52; simp only [etqa0, hs_43, hs_59] at q; exact q.symm
      have hs_60 : TBq I_53 J_54 b_1 b_4 b_2 b_11 = s_44 := (bq_fq wbqx_0 hFI_53 hGJ_54 (by decide) (by decide)).trans hs_44
      have hs_61 : CPq I_53 J_54 b_13 b_14 = s_45 := (cq_fq wcqx_1 hFI_53 hGJ_54 (by decide) (by decide)).trans hs_45
      have hs_62 : XPq I_53 J_54 x = s_46 := (xq_fq wxqx hFI_53 hGJ_54 (by decide) (by decide)).trans hs_46
      have kt_63 : Kt_ L κ R I I_53 [rr_ R x 0] := (kt_fq W9 kt_47 hFI_53 (by decide))
      have kn_64 : Kn_ L κ R J J_54 [rr_ R x 0] := (kn_fq W9 kn_48 hGJ_54 (by decide))
      refine g_istore C dX9_readPerson_44 (by decide) (lo2 := [(4, .int x_52), (2, .long y_34), (0, .ref x), (1, .ref a0)]) rfl ?_
      refine g_iload C 0 dX9_readPerson_46 rfl ?_
      refine g_iconst C (v := (-1)) dX9_readPerson_48 (by decide) ?_
      refine g_icmp_ne C (tgt := 54) dX9_readPerson_49 (by decide) (fun h_65 => ?_) (fun h_65 => ?_)
      · skip
        have n_66 : ¬ x_52 = (-1) := h_65
        refine g_iconst C (v := (-1)) dX9_readPerson_54 (by decide) ?_
        refine g_istore C dX9_readPerson_55 (by decide) (lo2 := [(5, .int (-1)), (4, .int x_52), (2, .long y_34), (0, .ref x), (1, .ref a0)]) rfl ?_
        refine g_aload_n C 4 dX9_readPerson_57 rfl rfl ?_
        obtain ⟨x_67, hx_67, rx_67⟩ := ex_get (I := I_53) (a := a0) (j := 8) (lo := (-2147483648)) (hi := 2147483647) hUI_53.1 hLa0 (ro_o hka0 (by decide)) rfl
        have f_68 : s_59.token = x_67 := (congrArg TP_.token hs_59).symm.trans hx_67
        refine g_getI C K hLa0 hka0 f_9_44 (v := x_67) hx_67 dX9_readPerson_58 ?_
        refine g_iconst C (v := 5) dX9_readPerson_61 (by decide) ?_
        refine g_icmp_ne C (tgt := 94) dX9_readPerson_62 (by decide) (fun h_69 => ?_) (fun h_69 => ?_)
        · skip
          have n_70 : ¬ x_67 = 5 := h_69
          refine g_aload_n C 3 dX9_readPerson_94 rfl rfl ?_
          refine g_getR C K hLx hkx f_9_12 hb_1 dX9_readPerson_95 ?_
          refine g_getR C K hb_1L hb_1k f_9_99 hb_4 dX9_readPerson_98 ?_
          refine g_aload_n C 3 dX9_readPerson_101 rfl rfl ?_
          refine g_getR C K hLx hkx f_9_12 hb_1 dX9_readPerson_102 ?_
          have f_71 : s_44.persons = x_17 := (congrArg TB_.persons hs_60).symm.trans (fq_at hFI_53 hb_1L hb_1k (by decide) (by decide) (fq_at hFI_37 hb_1L hb_1k (by decide) (by decide) (fq_at hFI_22 hb_1L hb_1k (by decide) (by decide) hx_17)))
          refine g_getI C K hb_1L hb_1k f_9_85 (v := x_17) (fq_at hFI_53 hb_1L hb_1k (by decide) (by decide) (fq_at hFI_37 hb_1L hb_1k (by decide) (by decide) (fq_at hFI_22 hb_1L hb_1k (by decide) (by decide) hx_17))) dX9_readPerson_105 ?_
          refine g_lload_n C 2 dX9_readPerson_108 rfl rfl ?_
          refine h_last C K hb_4L hb_4k (x_17.toNatClampNeg) (rfl) (ix_0 r_20 (by decide)) (ix_lt r_20 (by decide) hb_4n (by decide)) dX9_readPerson_109 (fun J_72 hJ_72 => ?_)
          have hG_73 := fq_puta hG_57 hJ_72 (ro_a hb_4k (by decide) hb_4o hb_1k rfl) (by decide) (by decide)
          have hs_74 : TPq I_53 J_72 a0 b_5 b_6 b_7 b_8 b_9 = s_59 := by rw [hJ_72]; exact (tq_oJ wtqa0 (ro_a hb_4k (by decide) hb_4o hb_1k rfl) (by decide)).trans hs_59
          have hs_75 : TBq I_53 J_72 b_1 b_4 b_2 b_11 = (TB_.w_pnm s_44 (up1 (s_44.pnm) (x_17.toNatClampNeg) (y_34))) := by rw [hJ_72]; exact ((bq_pnm wbqx_0).trans (congrArg (fun z : TB_ => TB_.w_pnm z (up1 (z.pnm) (x_17.toNatClampNeg) (y_34))) hs_60)).trans rfl
          have hs_76 : CPq I_53 J_72 b_13 b_14 = s_45 := by rw [hJ_72]; exact (cq_oJ wcqx_1 (ro_a hb_4k (by decide) hb_4o hb_1k rfl) (by decide)).trans hs_61
          have hs_77 : XPq I_53 J_72 x = s_46 := by rw [hJ_72]; exact (xq_oJ wxqx (ro_a hb_4k (by decide) hb_4o hb_1k rfl) (by decide)).trans hs_62
          have kn_78 : Kn_ L κ R J J_72 [rr_ R x 0] := (kn_u (r := 0) W9 kn_64 hJ_72 (Or.inr ⟨_, (by rw [rr_s hb_1]; simp only [List.mem_cons, true_or, or_true]), congrArg Prod.fst hb_4o⟩))
          refine g_aload_n C 3 dX9_readPerson_110 rfl rfl ?_
          refine g_getR C K hLx hkx f_9_12 hb_1 dX9_readPerson_111 ?_
          refine g_getR C K hb_1L hb_1k f_9_103 hb_3 dX9_readPerson_114 ?_
          refine g_aload_n C 3 dX9_readPerson_117 rfl rfl ?_
          refine g_getR C K hLx hkx f_9_12 hb_1 dX9_readPerson_118 ?_
          refine g_getI C K hb_1L hb_1k f_9_85 (v := x_17) (fq_at hFI_53 hb_1L hb_1k (by decide) (by decide) (fq_at hFI_37 hb_1L hb_1k (by decide) (by decide) (fq_at hFI_22 hb_1L hb_1k (by decide) (by decide) hx_17))) dX9_readPerson_121 ?_
          refine g_iload C 1 dX9_readPerson_124 rfl ?_
          refine h_iast C K hb_3L hb_3k (x_17.toNatClampNeg) (rfl) (ix_0 r_20 (by decide)) (ix_lt r_20 (by decide) hb_3n (by decide)) dX9_readPerson_126 (fun I_79 hI_79 => ?_)
          have hU_80 := iv_put W9 hUI_53 hI_79 (ro_a hb_3k (by decide) hb_3o hb_1k rfl) (lo := (-2147483648)) (hi := 2147483647) (rfl) (rx_52) rfl
          have hF_81 := fq_puta hF_56 hI_79 (ro_a hb_3k (by decide) hb_3o hb_1k rfl) (by decide) (by decide)
          have hs_82 : TPq I_79 J_72 a0 b_5 b_6 b_7 b_8 b_9 = s_59 := by rw [hI_79]; exact (tq_oI wtqa0 (ro_a hb_3k (by decide) hb_3o hb_1k rfl) (by decide)).trans hs_74
          have hs_83 : TBq I_79 J_72 b_1 b_4 b_2 b_11 = (TB_.w_pnm s_44 (up1 (s_44.pnm) (x_17.toNatClampNeg) (y_34))) := by rw [hI_79]; exact (bq_oI wbqx_0 (ro_a hb_3k (by decide) hb_3o hb_1k rfl) (by decide)).trans hs_75
          have hs_84 : CPq I_79 J_72 b_13 b_14 = s_45 := by rw [hI_79]; exact (cq_oI wcqx_1 (ro_a hb_3k (by decide) hb_3o hb_1k rfl) (by decide)).trans hs_76
          have hs_85 : XPq I_79 J_72 x = s_46 := by rw [hI_79]; exact (xq_oI wxqx (ro_a hb_3k (by decide) hb_3o hb_1k rfl) (by decide)).trans hs_77
          refine g_aload_n C 3 dX9_readPerson_127 rfl rfl ?_
          refine g_getR C K hLx hkx f_9_12 hb_1 dX9_readPerson_128 ?_
          refine g_getR C K hb_1L hb_1k f_9_107 hb_2 dX9_readPerson_131 ?_
          refine g_aload_n C 3 dX9_readPerson_134 rfl rfl ?_
          refine g_getR C K hLx hkx f_9_12 hb_1 dX9_readPerson_135 ?_
          have q_86 := (kp_k (κ := κ) hI_79 (by rw [hb_1k, hb_3k]; decide) (fq_at hFI_53 hb_1L hb_1k (by decide) (by decide) (fq_at hFI_37 hb_1L hb_1k (by decide) (by decide) (fq_at hFI_22 hb_1L hb_1k (by decide) (by decide) hx_17))))
          refine g_getI C K hb_1L hb_1k f_9_85 (v := x_17) q_86 dX9_readPerson_138 ?_
          refine g_iload C 0 dX9_readPerson_141 rfl ?_
          refine h_iast C K hb_2L hb_2k (x_17.toNatClampNeg) (rfl) (ix_0 r_20 (by decide)) (ix_lt r_20 (by decide) hb_2n (by decide)) dX9_readPerson_143 (fun I_87 hI_87 => ?_)
          have hU_88 := iv_put W9 hU_80 hI_87 (ro_a hb_2k (by decide) hb_2o hb_1k rfl) (lo := (-1)) (hi := 6) (rfl) (rg_w rc_m1 (by decide) (by decide)) rfl
          have hF_89 := fq_puta hF_81 hI_87 (ro_a hb_2k (by decide) hb_2o hb_1k rfl) (by decide) (by decide)
          have hs_90 : TPq I_87 J_72 a0 b_5 b_6 b_7 b_8 b_9 = s_59 := by rw [hI_87]; exact (tq_oI wtqa0 (ro_a hb_2k (by decide) hb_2o hb_1k rfl) (by decide)).trans hs_82
          have hs_91 : TBq I_87 J_72 b_1 b_4 b_2 b_11 = (TB_.w_par (TB_.w_pnm s_44 (up1 (s_44.pnm) (x_17.toNatClampNeg) (y_34))) (up1 (s_44.par) (x_17.toNatClampNeg) ((-1)))) := by rw [hI_87]; exact ((bq_par wbqx_0).trans (congrArg (fun z : TB_ => TB_.w_par z (up1 (z.par) (x_17.toNatClampNeg) ((-1)))) hs_83)).trans rfl
          have hs_92 : CPq I_87 J_72 b_13 b_14 = s_45 := by rw [hI_87]; exact (cq_oI wcqx_1 (ro_a hb_2k (by decide) hb_2o hb_1k rfl) (by decide)).trans hs_84
          have hs_93 : XPq I_87 J_72 x = s_46 := by rw [hI_87]; exact (xq_oI wxqx (ro_a hb_2k (by decide) hb_2o hb_1k rfl) (by decide)).trans hs_85
          refine g_aload_n C 3 dX9_readPerson_144 rfl rfl ?_
          refine g_getR C K hLx hkx f_9_12 hb_1 dX9_readPerson_145 ?_
          refine g_dup C dX9_readPerson_148 rfl ?_
          refine g_getI C K hb_1L hb_1k f_9_85 (v := x_17) (kp_k (κ := κ) hI_87 (by rw [hb_1k, hb_2k]; decide) q_86) dX9_readPerson_149 ?_
          refine g_iconst C (v := 1) dX9_readPerson_152 (by decide) ?_
          obtain ⟨x_94, hx_94, rx_94, tx_94⟩ := ex_add 1 7 r_20 rc_1 (by decide) (by decide) (by decide) (by decide)
          refine g_iadd C (v := x_94) dX9_readPerson_153 hx_94 ?_
          refine h_putI C K hb_1L hb_1k f_9_85 p_8_5 dX9_readPerson_154 (fun I_95 hI_95 => ?_)
          have hU_96 := iv_put W9 hU_88 hI_95 (ro_o hb_1k (by decide)) (lo := 0) (hi := 7) (rfl) (rg_w rx_94 (by decide) (by decide)) rfl
          have hF_97 := fq_puto hF_89 hI_95 hb_1k (by decide) (by decide)
          have hs_98 : TPq I_95 J_72 a0 b_5 b_6 b_7 b_8 b_9 = s_59 := by rw [hI_95]; exact (tq_oI wtqa0 (ro_o hb_1k (by decide)) (by decide)).trans hs_90
          have hs_99 : TBq I_95 J_72 b_1 b_4 b_2 b_11 = (TB_.w_persons (TB_.w_par (TB_.w_pnm s_44 (up1 (s_44.pnm) (x_17.toNatClampNeg) (y_34))) (up1 (s_44.par) (x_17.toNatClampNeg) ((-1)))) (x_94)) := by rw [hI_95]; exact ((bq_persons wbqx_0).trans (congrArg (fun z : TB_ => TB_.w_persons z (x_94)) hs_91)).trans rfl
          have hs_100 : CPq I_95 J_72 b_13 b_14 = s_45 := by rw [hI_95]; exact (cq_oI wcqx_1 (ro_o hb_1k (by decide)) (by decide)).trans hs_92
          have hs_101 : XPq I_95 J_72 x = s_46 := by rw [hI_95]; exact (xq_oI wxqx (ro_o hb_1k (by decide)) (by decide)).trans hs_93
          refine g_aload_n C 4 dX9_readPerson_157 rfl rfl ?_
          refine g_bipush C (v := 59) dX9_readPerson_158 (by decide) ?_
          refine g_callVI C K (c_X10_take W9 hLa0 hka0 59 (rg_w rc_59 (by decide) (by decide)) hU_96) hLa0 hka0 (by decide) rfl v_9_110 rfl ⟨rfl, rfl⟩ ⟨Nat.le_of_ble_eq_true rfl, Nat.le_of_ble_eq_true rfl⟩ (Nat.le_of_ble_eq_true rfl) ⟨Nat.le_of_ble_eq_true rfl, Nat.le_of_ble_eq_true rfl⟩ dX9_readPerson_160 rfl (st := []) (fun x_102 I_103 J_104 h_105 => ?_)
          obtain ⟨hUI_103, hFI_103, hGJ_104, rx_102, fx_102⟩ := h_105
          have hF_106 := fq_tr hF_97 hFI_103 (by decide)
          have hG_107 := fq_tr hG_73 hGJ_104 (by decide)
          obtain ⟨s_109, hs_109⟩ : ∃ z, TPq I_103 J_104 a0 b_5 b_6 b_7 b_8 b_9 = z := ⟨_, rfl⟩
          have c_108 : fTake (59) (s_59) = (x_102, s_109) := by have q := fx_102; simp only [etqa0, hs_98, hs_109] at q; exact q.symm
          have hs_110 : TBq I_103 J_104 b_1 b_4 b_2 b_11 = (TB_.w_persons (TB_.w_par (TB_.w_pnm s_44 (up1 (s_44.pnm) (x_17.toNatClampNeg) (y_34))) (up1 (s_44.par) (x_17.toNatClampNeg) ((-1)))) (x_94)) := (bq_fq wbqx_0 hFI_103 hGJ_104 (by decide) (by decide)).trans hs_99
          have hs_111 : CPq I_103 J_104 b_13 b_14 = s_45 := (cq_fq wcqx_1 hFI_103 hGJ_104 (by decide) (by decide)).trans hs_100
          have hs_112 : XPq I_103 J_104 x = s_46 := (xq_fq wxqx hFI_103 hGJ_104 (by decide) (by decide)).trans hs_101
          have kt_113 : Kt_ L κ R I I_79 [rr_ R x 0] := (kt_u W9 kt_63 hI_79 (Or.inr (Or.inr (Or.inl ⟨(ro_a hb_3k (by decide) hb_3o hb_1k rfl), by decide, by decide⟩))))
          have kt_114 : Kt_ L κ R I I_87 [rr_ R x 0] := (kt_u (r := 0) W9 kt_113 hI_87 (Or.inr (Or.inr (Or.inr ⟨_, (by rw [rr_s hb_1]; simp only [List.mem_cons, true_or, or_true]), hb_2o, hb_2k⟩))))
          have kt_115 : Kt_ L κ R I I_95 [rr_ R x 0] := (kt_u (r := 0) W9 kt_114 hI_95 (Or.inr (Or.inl ⟨(by rw [rr_s hb_1]; simp only [List.mem_cons, true_or, or_true]), hb_1k⟩)))
          have kt_116 : Kt_ L κ R I I_103 [rr_ R x 0] := (kt_fq W9 kt_115 hFI_103 (by decide))
          have kn_117 : Kn_ L κ R J J_104 [rr_ R x 0] := (kn_fq W9 kn_78 hGJ_104 (by decide))
          exact g_zret (ty := .boolean) (r := x_102) B K rfl (nar_z (rx_102)) ⟨hUI_103, hF_106, hG_107, rx_102, (by simp only [fReadPerson, fFailR, fTakeR, fPutPerson, fPutDish, fReadPlate3, etqa0, hs_109, hs_10, ebqx_0, dbqx_0, hs_110, hs_12, ecqx_1, dcqx_1, hs_111, hs_15, exqx, hs_112, hs_16, hx_17, f_18, h_19, c_27, hy_34, f_35, c_42, h_49, c_58, h_65, hx_67, f_68, h_69, f_71, hx_94, c_108, if_true, if_false, bqM_pnm, bqM_par, bqM_dnm, bqM_persons, bqM_dishes, bqM_law, bqM_dogs, TB_.w_pnm, TB_.w_par, TB_.w_dnm, TB_.w_persons, TB_.w_dishes, TB_.w_law, TB_.w_dogs, cqM_pcs, CP_.w_pcs, tqM_by_, tqM_wd, tqM_tk, tqM_pl, tqM_vl, tqM_len, tqM_n, tqM_at_, tqM_token, tqM_place, tqM_value, tqM_fault, tqM_fat, TP_.w_by_, TP_.w_wd, TP_.w_tk, TP_.w_pl, TP_.w_vl, TP_.w_len, TP_.w_n, TP_.w_at_, TP_.w_token, TP_.w_place, TP_.w_value, TP_.w_fault, TP_.w_fat, xqM_lt, xqM_dt, XP_.w_lt, XP_.w_dt]), kt_116, kn_117⟩ dX9_readPerson_163
        · skip
          have r_118 := (⟨(eq_rg (h_69) rc_5).1, (eq_rg (h_69) rc_5).2⟩ : Rg 5 5 x_67)
          refine g_aload_n C 4 dX9_readPerson_65 rfl rfl ?_
          refine g_callVV C K (c_X10_advance W9 hLa0 hka0   hUI_53) hLa0 hka0 (by decide) rfl v_9_82 rfl ⟨rfl, rfl⟩ ⟨Nat.le_of_ble_eq_true rfl, Nat.le_of_ble_eq_true rfl⟩ (Nat.le_of_ble_eq_true rfl) ⟨Nat.le_of_ble_eq_true rfl, Nat.le_of_ble_eq_true rfl⟩ dX9_readPerson_66 rfl (st := []) (fun I_120 J_121 h_122 => ?_)
          obtain ⟨hUI_120, hFI_120, hGJ_121, fx_119⟩ := h_122
          have hF_123 := fq_tr hF_56 hFI_120 (by decide)
          have hG_124 := fq_tr hG_57 hGJ_121 (by decide)
          obtain ⟨s_126, hs_126⟩ : ∃ z, TPq I_120 J_121 a0 b_5 b_6 b_7 b_8 b_9 = z := ⟨_, rfl⟩
          have c_125 : fAdvance (s_59) = s_126 := by have q := fx_119; simp only [etqa0, hs_59, hs_126] at q; exact q.symm
          have hs_127 : TBq I_120 J_121 b_1 b_4 b_2 b_11 = s_44 := (bq_fq wbqx_0 hFI_120 hGJ_121 (by decide) (by decide)).trans hs_60
          have hs_128 : CPq I_120 J_121 b_13 b_14 = s_45 := (cq_fq wcqx_1 hFI_120 hGJ_121 (by decide) (by decide)).trans hs_61
          have hs_129 : XPq I_120 J_121 x = s_46 := (xq_fq wxqx hFI_120 hGJ_121 (by decide) (by decide)).trans hs_62
          have kt_130 : Kt_ L κ R I I_120 [rr_ R x 0] := (kt_fq W9 kt_63 hFI_120 (by decide))
          have kn_131 : Kn_ L κ R J J_121 [rr_ R x 0] := (kn_fq W9 kn_64 hGJ_121 (by decide))
          refine g_aload_n C 4 dX9_readPerson_69 rfl rfl ?_
          refine g_aload_n C 3 dX9_readPerson_70 rfl rfl ?_
          refine g_getR C K hLx hkx f_9_12 hb_1 dX9_readPerson_71 ?_
          refine g_aload_n C 4 dX9_readPerson_74 rfl rfl ?_
          obtain ⟨y_132, hy_132⟩ : ∃ z, J_121 a0 10 = z := ⟨_, rfl⟩
          have f_133 : s_126.value = y_132 := (congrArg TP_.value hs_126).symm.trans hy_132
          refine g_getJ C K hLa0 hka0 f_9_71 (v := y_132) hy_132 dX9_readPerson_75 ?_
          refine g_callVI C K (c_X8_personNamed W9 hb_1L hb_1k y_132  hUI_120) hb_1L hb_1k (by decide) rfl v_9_75 rfl ⟨rfl, rfl⟩ ⟨Nat.le_of_ble_eq_true rfl, Nat.le_of_ble_eq_true rfl⟩ (Nat.le_of_ble_eq_true rfl) ⟨Nat.le_of_ble_eq_true rfl, Nat.le_of_ble_eq_true rfl⟩ dX9_readPerson_78 rfl (st := [.ref a0]) (fun x_134 I_135 J_136 h_137 => ?_)
          obtain ⟨rfl, rfl, rx_134, fx_134⟩ := h_137
          have c_138 : fPersonNamed (y_132) (s_44) = x_134 := by have q := fx_134; simp only [ebqx_0, dbqx_0, hs_127] at q; exact q.symm
          refine g_callVI C K (c_X10_takeName W9 hLa0 hka0 x_134 (rx_134) hUI_120) hLa0 hka0 (by decide) rfl v_9_95 rfl ⟨rfl, rfl⟩ ⟨Nat.le_of_ble_eq_true rfl, Nat.le_of_ble_eq_true rfl⟩ (Nat.le_of_ble_eq_true rfl) ⟨Nat.le_of_ble_eq_true rfl, Nat.le_of_ble_eq_true rfl⟩ dX9_readPerson_81 rfl (st := []) (fun x_139 I_140 J_141 h_142 => ?_)
          obtain ⟨hUI_140, hFI_140, hGJ_141, rx_139, fx_139, ex_139⟩ := h_142
          have hF_143 := fq_tr hF_123 hFI_140 (by decide)
          have hG_144 := fq_tr hG_124 hGJ_141 (by decide)
          obtain ⟨s_146, hs_146⟩ : ∃ z, TPq I_140 J_141 a0 b_5 b_6 b_7 b_8 b_9 = z := ⟨_, rfl⟩
          have c_145 : fTakeName (x_134) (s_126) = (x_139, s_146) := by have q := fx_139; simp only [etqa0, hs_126, hs_146] at q; exact q.symm
          have hs_147 : TBq I_140 J_141 b_1 b_4 b_2 b_11 = s_44 := (bq_fq wbqx_0 hFI_140 hGJ_141 (by decide) (by decide)).trans hs_127
          have hs_148 : CPq I_140 J_141 b_13 b_14 = s_45 := (cq_fq wcqx_1 hFI_140 hGJ_141 (by decide) (by decide)).trans hs_128
          have hs_149 : XPq I_140 J_141 x = s_46 := (xq_fq wxqx hFI_140 hGJ_141 (by decide) (by decide)).trans hs_129
          have kt_150 : Kt_ L κ R I I_140 [rr_ R x 0] := (kt_fq W9 kt_130 hFI_140 (by decide))
          have kn_151 : Kn_ L κ R J J_141 [rr_ R x 0] := (kn_fq W9 kn_131 hGJ_141 (by decide))
          have r_152 : Rg (-1) 6 x_139 := rg_or ex_139 (rx_134) (by decide) (by decide)
          refine g_istore C dX9_readPerson_84 (by decide) (lo2 := [(5, .int x_139), (4, .int x_52), (2, .long y_34), (0, .ref x), (1, .ref a0)]) rfl ?_
          refine g_iload C 0 dX9_readPerson_86 rfl ?_
          refine g_iconst C (v := (-1)) dX9_readPerson_88 (by decide) ?_
          refine g_icmp_ne C (tgt := 94) dX9_readPerson_89 (by decide) (fun h_153 => ?_) (fun h_153 => ?_)
          · skip
            have n_154 : ¬ x_139 = (-1) := h_153
            have r_155 := ne_lo (lo := 0) n_154 r_152 rc_m1 rfl (by decide)
            have r_156 := eq_rg (Eq.symm (Or.resolve_left ex_139 (rg_nek r_155 rc_m1 (by decide)))) r_155
            refine g_aload_n C 3 dX9_readPerson_94 rfl rfl ?_
            refine g_getR C K hLx hkx f_9_12 hb_1 dX9_readPerson_95 ?_
            refine g_getR C K hb_1L hb_1k f_9_99 hb_4 dX9_readPerson_98 ?_
            refine g_aload_n C 3 dX9_readPerson_101 rfl rfl ?_
            refine g_getR C K hLx hkx f_9_12 hb_1 dX9_readPerson_102 ?_
            have q_157 := (fq_at hFI_140 hb_1L hb_1k (by decide) (by decide) (fq_at hFI_120 hb_1L hb_1k (by decide) (by decide) (fq_at hFI_53 hb_1L hb_1k (by decide) (by decide) (fq_at hFI_37 hb_1L hb_1k (by decide) (by decide) (fq_at hFI_22 hb_1L hb_1k (by decide) (by decide) hx_17)))))
            have f_158 : s_44.persons = x_17 := (congrArg TB_.persons hs_147).symm.trans q_157
            refine g_getI C K hb_1L hb_1k f_9_85 (v := x_17) q_157 dX9_readPerson_105 ?_
            refine g_lload_n C 2 dX9_readPerson_108 rfl rfl ?_
            refine h_last C K hb_4L hb_4k (x_17.toNatClampNeg) (rfl) (ix_0 r_20 (by decide)) (ix_lt r_20 (by decide) hb_4n (by decide)) dX9_readPerson_109 (fun J_159 hJ_159 => ?_)
            have hG_160 := fq_puta hG_144 hJ_159 (ro_a hb_4k (by decide) hb_4o hb_1k rfl) (by decide) (by decide)
            have hs_161 : TPq I_140 J_159 a0 b_5 b_6 b_7 b_8 b_9 = s_146 := by rw [hJ_159]; exact (tq_oJ wtqa0 (ro_a hb_4k (by decide) hb_4o hb_1k rfl) (by decide)).trans hs_146
            have hs_162 : TBq I_140 J_159 b_1 b_4 b_2 b_11 = (TB_.w_pnm s_44 (up1 (s_44.pnm) (x_17.toNatClampNeg) (y_34))) := by rw [hJ_159]; exact ((bq_pnm wbqx_0).trans (congrArg (fun z : TB_ => TB_.w_pnm z (up1 (z.pnm) (x_17.toNatClampNeg) (y_34))) hs_147)).trans rfl
            have hs_163 : CPq I_140 J_159 b_13 b_14 = s_45 := by rw [hJ_159]; exact (cq_oJ wcqx_1 (ro_a hb_4k (by decide) hb_4o hb_1k rfl) (by decide)).trans hs_148
            have hs_164 : XPq I_140 J_159 x = s_46 := by rw [hJ_159]; exact (xq_oJ wxqx (ro_a hb_4k (by decide) hb_4o hb_1k rfl) (by decide)).trans hs_149
            have kn_165 : Kn_ L κ R J J_159 [rr_ R x 0] := (kn_u (r := 0) W9 kn_151 hJ_159 (Or.inr ⟨_, (by rw [rr_s hb_1]; simp only [List.mem_cons, true_or, or_true]), congrArg Prod.fst hb_4o⟩))
            refine g_aload_n C 3 dX9_readPerson_110 rfl rfl ?_
            refine g_getR C K hLx hkx f_9_12 hb_1 dX9_readPerson_111 ?_
            refine g_getR C K hb_1L hb_1k f_9_103 hb_3 dX9_readPerson_114 ?_
            refine g_aload_n C 3 dX9_readPerson_117 rfl rfl ?_
            refine g_getR C K hLx hkx f_9_12 hb_1 dX9_readPerson_118 ?_
            refine g_getI C K hb_1L hb_1k f_9_85 (v := x_17) q_157 dX9_readPerson_121 ?_
            refine g_iload C 1 dX9_readPerson_124 rfl ?_
            refine h_iast C K hb_3L hb_3k (x_17.toNatClampNeg) (rfl) (ix_0 r_20 (by decide)) (ix_lt r_20 (by decide) hb_3n (by decide)) dX9_readPerson_126 (fun I_166 hI_166 => ?_)
            have hU_167 := iv_put W9 hUI_140 hI_166 (ro_a hb_3k (by decide) hb_3o hb_1k rfl) (lo := (-2147483648)) (hi := 2147483647) (rfl) (rx_52) rfl
            have hF_168 := fq_puta hF_143 hI_166 (ro_a hb_3k (by decide) hb_3o hb_1k rfl) (by decide) (by decide)
            have hs_169 : TPq I_166 J_159 a0 b_5 b_6 b_7 b_8 b_9 = s_146 := by rw [hI_166]; exact (tq_oI wtqa0 (ro_a hb_3k (by decide) hb_3o hb_1k rfl) (by decide)).trans hs_161
            have hs_170 : TBq I_166 J_159 b_1 b_4 b_2 b_11 = (TB_.w_pnm s_44 (up1 (s_44.pnm) (x_17.toNatClampNeg) (y_34))) := by rw [hI_166]; exact (bq_oI wbqx_0 (ro_a hb_3k (by decide) hb_3o hb_1k rfl) (by decide)).trans hs_162
            have hs_171 : CPq I_166 J_159 b_13 b_14 = s_45 := by rw [hI_166]; exact (cq_oI wcqx_1 (ro_a hb_3k (by decide) hb_3o hb_1k rfl) (by decide)).trans hs_163
            have hs_172 : XPq I_166 J_159 x = s_46 := by rw [hI_166]; exact (xq_oI wxqx (ro_a hb_3k (by decide) hb_3o hb_1k rfl) (by decide)).trans hs_164
            refine g_aload_n C 3 dX9_readPerson_127 rfl rfl ?_
            refine g_getR C K hLx hkx f_9_12 hb_1 dX9_readPerson_128 ?_
            refine g_getR C K hb_1L hb_1k f_9_107 hb_2 dX9_readPerson_131 ?_
            refine g_aload_n C 3 dX9_readPerson_134 rfl rfl ?_
            refine g_getR C K hLx hkx f_9_12 hb_1 dX9_readPerson_135 ?_
            refine g_getI C K hb_1L hb_1k f_9_85 (v := x_17) (kp_k (κ := κ) hI_166 (by rw [hb_1k, hb_3k]; decide) q_157) dX9_readPerson_138 ?_
            refine g_iload C 0 dX9_readPerson_141 rfl ?_
            refine h_iast C K hb_2L hb_2k (x_17.toNatClampNeg) (rfl) (ix_0 r_20 (by decide)) (ix_lt r_20 (by decide) hb_2n (by decide)) dX9_readPerson_143 (fun I_173 hI_173 => ?_)
            have hU_174 := iv_put W9 hU_167 hI_173 (ro_a hb_2k (by decide) hb_2o hb_1k rfl) (lo := (-1)) (hi := 6) (rfl) (rg_w r_155 (by decide) (by decide)) rfl
            have hF_175 := fq_puta hF_168 hI_173 (ro_a hb_2k (by decide) hb_2o hb_1k rfl) (by decide) (by decide)
            have hs_176 : TPq I_173 J_159 a0 b_5 b_6 b_7 b_8 b_9 = s_146 := by rw [hI_173]; exact (tq_oI wtqa0 (ro_a hb_2k (by decide) hb_2o hb_1k rfl) (by decide)).trans hs_169
            have hs_177 : TBq I_173 J_159 b_1 b_4 b_2 b_11 = (TB_.w_par (TB_.w_pnm s_44 (up1 (s_44.pnm) (x_17.toNatClampNeg) (y_34))) (up1 (s_44.par) (x_17.toNatClampNeg) (x_139))) := by rw [hI_173]; exact ((bq_par wbqx_0).trans (congrArg (fun z : TB_ => TB_.w_par z (up1 (z.par) (x_17.toNatClampNeg) (x_139))) hs_170)).trans rfl
            have hs_178 : CPq I_173 J_159 b_13 b_14 = s_45 := by rw [hI_173]; exact (cq_oI wcqx_1 (ro_a hb_2k (by decide) hb_2o hb_1k rfl) (by decide)).trans hs_171
            have hs_179 : XPq I_173 J_159 x = s_46 := by rw [hI_173]; exact (xq_oI wxqx (ro_a hb_2k (by decide) hb_2o hb_1k rfl) (by decide)).trans hs_172
            refine g_aload_n C 3 dX9_readPerson_144 rfl rfl ?_
            refine g_getR C K hLx hkx f_9_12 hb_1 dX9_readPerson_145 ?_
            refine g_dup C dX9_readPerson_148 rfl ?_
            refine g_getI C K hb_1L hb_1k f_9_85 (v := x_17) (kp_k (κ := κ) hI_173 (by rw [hb_1k, hb_2k]; decide) (kp_k (κ := κ) hI_166 (by rw [hb_1k, hb_3k]; decide) q_157)) dX9_readPerson_149 ?_
            refine g_iconst C (v := 1) dX9_readPerson_152 (by decide) ?_
            obtain ⟨x_180, hx_180, rx_180, tx_180⟩ := ex_add 1 7 r_20 rc_1 (by decide) (by decide) (by decide) (by decide)
            refine g_iadd C (v := x_180) dX9_readPerson_153 hx_180 ?_
            refine h_putI C K hb_1L hb_1k f_9_85 p_8_5 dX9_readPerson_154 (fun I_181 hI_181 => ?_)
            have hU_182 := iv_put W9 hU_174 hI_181 (ro_o hb_1k (by decide)) (lo := 0) (hi := 7) (rfl) (rg_w rx_180 (by decide) (by decide)) rfl
            have hF_183 := fq_puto hF_175 hI_181 hb_1k (by decide) (by decide)
            have hs_184 : TPq I_181 J_159 a0 b_5 b_6 b_7 b_8 b_9 = s_146 := by rw [hI_181]; exact (tq_oI wtqa0 (ro_o hb_1k (by decide)) (by decide)).trans hs_176
            have hs_185 : TBq I_181 J_159 b_1 b_4 b_2 b_11 = (TB_.w_persons (TB_.w_par (TB_.w_pnm s_44 (up1 (s_44.pnm) (x_17.toNatClampNeg) (y_34))) (up1 (s_44.par) (x_17.toNatClampNeg) (x_139))) (x_180)) := by rw [hI_181]; exact ((bq_persons wbqx_0).trans (congrArg (fun z : TB_ => TB_.w_persons z (x_180)) hs_177)).trans rfl
            have hs_186 : CPq I_181 J_159 b_13 b_14 = s_45 := by rw [hI_181]; exact (cq_oI wcqx_1 (ro_o hb_1k (by decide)) (by decide)).trans hs_178
            have hs_187 : XPq I_181 J_159 x = s_46 := by rw [hI_181]; exact (xq_oI wxqx (ro_o hb_1k (by decide)) (by decide)).trans hs_179
            refine g_aload_n C 4 dX9_readPerson_157 rfl rfl ?_
            refine g_bipush C (v := 59) dX9_readPerson_158 (by decide) ?_
            refine g_callVI C K (c_X10_take W9 hLa0 hka0 59 (rg_w rc_59 (by decide) (by decide)) hU_182) hLa0 hka0 (by decide) rfl v_9_110 rfl ⟨rfl, rfl⟩ ⟨Nat.le_of_ble_eq_true rfl, Nat.le_of_ble_eq_true rfl⟩ (Nat.le_of_ble_eq_true rfl) ⟨Nat.le_of_ble_eq_true rfl, Nat.le_of_ble_eq_true rfl⟩ dX9_readPerson_160 rfl (st := []) (fun x_188 I_189 J_190 h_191 => ?_)
            obtain ⟨hUI_189, hFI_189, hGJ_190, rx_188, fx_188⟩ := h_191
            have hF_192 := fq_tr hF_183 hFI_189 (by decide)
            have hG_193 := fq_tr hG_160 hGJ_190 (by decide)
            obtain ⟨s_195, hs_195⟩ : ∃ z, TPq I_189 J_190 a0 b_5 b_6 b_7 b_8 b_9 = z := ⟨_, rfl⟩
            have c_194 : fTake (59) (s_146) = (x_188, s_195) := by have q := fx_188; simp only [etqa0, hs_184, hs_195] at q; exact q.symm
            have hs_196 : TBq I_189 J_190 b_1 b_4 b_2 b_11 = (TB_.w_persons (TB_.w_par (TB_.w_pnm s_44 (up1 (s_44.pnm) (x_17.toNatClampNeg) (y_34))) (up1 (s_44.par) (x_17.toNatClampNeg) (x_139))) (x_180)) := (bq_fq wbqx_0 hFI_189 hGJ_190 (by decide) (by decide)).trans hs_185
            have hs_197 : CPq I_189 J_190 b_13 b_14 = s_45 := (cq_fq wcqx_1 hFI_189 hGJ_190 (by decide) (by decide)).trans hs_186
            have hs_198 : XPq I_189 J_190 x = s_46 := (xq_fq wxqx hFI_189 hGJ_190 (by decide) (by decide)).trans hs_187
            have kt_199 : Kt_ L κ R I I_166 [rr_ R x 0] := (kt_u W9 kt_150 hI_166 (Or.inr (Or.inr (Or.inl ⟨(ro_a hb_3k (by decide) hb_3o hb_1k rfl), by decide, by decide⟩))))
            have kt_200 : Kt_ L κ R I I_173 [rr_ R x 0] := (kt_u (r := 0) W9 kt_199 hI_173 (Or.inr (Or.inr (Or.inr ⟨_, (by rw [rr_s hb_1]; simp only [List.mem_cons, true_or, or_true]), hb_2o, hb_2k⟩))))
            have kt_201 : Kt_ L κ R I I_181 [rr_ R x 0] := (kt_u (r := 0) W9 kt_200 hI_181 (Or.inr (Or.inl ⟨(by rw [rr_s hb_1]; simp only [List.mem_cons, true_or, or_true]), hb_1k⟩)))
            have kt_202 : Kt_ L κ R I I_189 [rr_ R x 0] := (kt_fq W9 kt_201 hFI_189 (by decide))
            have kn_203 : Kn_ L κ R J J_190 [rr_ R x 0] := (kn_fq W9 kn_165 hGJ_190 (by decide))
            exact g_zret (ty := .boolean) (r := x_188) B K rfl (nar_z (rx_188)) ⟨hUI_189, hF_192, hG_193, rx_188, (by simp only [fReadPerson, fFailR, fTakeR, fPutPerson, fPutDish, fReadPlate3, etqa0, hs_195, hs_10, ebqx_0, dbqx_0, hs_196, hs_12, ecqx_1, dcqx_1, hs_197, hs_15, exqx, hs_198, hs_16, hx_17, f_18, h_19, c_27, hy_34, f_35, c_42, h_49, c_58, h_65, hx_67, f_68, (eq_true h_69), c_125, hy_132, f_133, c_138, c_145, h_153, f_158, hx_180, c_194, if_true, if_false, bqM_pnm, bqM_par, bqM_dnm, bqM_persons, bqM_dishes, bqM_law, bqM_dogs, TB_.w_pnm, TB_.w_par, TB_.w_dnm, TB_.w_persons, TB_.w_dishes, TB_.w_law, TB_.w_dogs, cqM_pcs, CP_.w_pcs, tqM_by_, tqM_wd, tqM_tk, tqM_pl, tqM_vl, tqM_len, tqM_n, tqM_at_, tqM_token, tqM_place, tqM_value, tqM_fault, tqM_fat, TP_.w_by_, TP_.w_wd, TP_.w_tk, TP_.w_pl, TP_.w_vl, TP_.w_len, TP_.w_n, TP_.w_at_, TP_.w_token, TP_.w_place, TP_.w_value, TP_.w_fault, TP_.w_fat, xqM_lt, xqM_dt, XP_.w_lt, XP_.w_dt]), kt_202, kn_203⟩ dX9_readPerson_163
          · skip
            have r_204 := (⟨(r_152).1, (eq_rg (h_153) rc_m1).2⟩ : Rg (-1) (-1) x_139)
            refine g_iconst C (v := 0) dX9_readPerson_92 (by decide) ?_
            exact g_zret (ty := .boolean) (r := 0) B K rfl (rfl) ⟨hUI_140, hF_143, hG_144, rg_w rc_0 (by decide) (by decide), (by simp only [fReadPerson, fFailR, fTakeR, fPutPerson, fPutDish, fReadPlate3, etqa0, hs_146, hs_10, ebqx_0, dbqx_0, hs_147, hs_12, ecqx_1, dcqx_1, hs_148, hs_15, exqx, hs_149, hs_16, hx_17, f_18, h_19, c_27, hy_34, f_35, c_42, h_49, c_58, h_65, hx_67, f_68, (eq_true h_69), c_125, hy_132, f_133, c_138, c_145, (eq_true h_153), if_true, if_false, bqM_pnm, bqM_par, bqM_dnm, bqM_persons, bqM_dishes, bqM_law, bqM_dogs, TB_.w_pnm, TB_.w_par, TB_.w_dnm, TB_.w_persons, TB_.w_dishes, TB_.w_law, TB_.w_dogs, cqM_pcs, CP_.w_pcs, tqM_by_, tqM_wd, tqM_tk, tqM_pl, tqM_vl, tqM_len, tqM_n, tqM_at_, tqM_token, tqM_place, tqM_value, tqM_fault, tqM_fat, TP_.w_by_, TP_.w_wd, TP_.w_tk, TP_.w_pl, TP_.w_vl, TP_.w_len, TP_.w_n, TP_.w_at_, TP_.w_token, TP_.w_place, TP_.w_value, TP_.w_fault, TP_.w_fat, xqM_lt, xqM_dt, XP_.w_lt, XP_.w_dt]), kt_150, kn_151⟩ dX9_readPerson_93
      · skip
        have r_205 := (⟨(eq_rg (h_65) rc_m1).1, (eq_rg (h_65) rc_m1).2⟩ : Rg (-1) (-1) x_52)
        refine g_iconst C (v := 0) dX9_readPerson_52 (by decide) ?_
        exact g_zret (ty := .boolean) (r := 0) B K rfl (rfl) ⟨hUI_53, hF_56, hG_57, rg_w rc_0 (by decide) (by decide), (by simp only [fReadPerson, fFailR, fTakeR, fPutPerson, fPutDish, fReadPlate3, etqa0, hs_59, hs_10, ebqx_0, dbqx_0, hs_60, hs_12, ecqx_1, dcqx_1, hs_61, hs_15, exqx, hs_62, hs_16, hx_17, f_18, h_19, c_27, hy_34, f_35, c_42, h_49, c_58, (eq_true h_65), if_true, if_false, bqM_pnm, bqM_par, bqM_dnm, bqM_persons, bqM_dishes, bqM_law, bqM_dogs, TB_.w_pnm, TB_.w_par, TB_.w_dnm, TB_.w_persons, TB_.w_dishes, TB_.w_law, TB_.w_dogs, cqM_pcs, CP_.w_pcs, tqM_by_, tqM_wd, tqM_tk, tqM_pl, tqM_vl, tqM_len, tqM_n, tqM_at_, tqM_token, tqM_place, tqM_value, tqM_fault, tqM_fat, TP_.w_by_, TP_.w_wd, TP_.w_tk, TP_.w_pl, TP_.w_vl, TP_.w_len, TP_.w_n, TP_.w_at_, TP_.w_token, TP_.w_place, TP_.w_value, TP_.w_fault, TP_.w_fat, xqM_lt, xqM_dt, XP_.w_lt, XP_.w_dt]), kt_63, kn_64⟩ dX9_readPerson_53
    · skip
      have r_206 := (⟨(rx_36).1, (eq_rg (h_49) rc_0).2⟩ : Rg 0 0 x_36)
      refine g_iconst C (v := 0) dX9_readPerson_35 (by decide) ?_
      exact g_zret (ty := .boolean) (r := 0) B K rfl (rfl) ⟨hUI_37, hF_40, hG_41, rg_w rc_0 (by decide) (by decide), (by simp only [fReadPerson, fFailR, fTakeR, fPutPerson, fPutDish, fReadPlate3, etqa0, hs_43, hs_10, ebqx_0, dbqx_0, hs_44, hs_12, ecqx_1, dcqx_1, hs_45, hs_15, exqx, hs_46, hs_16, hx_17, f_18, h_19, c_27, hy_34, f_35, c_42, (eq_true h_49), if_true, if_false, bqM_pnm, bqM_par, bqM_dnm, bqM_persons, bqM_dishes, bqM_law, bqM_dogs, TB_.w_pnm, TB_.w_par, TB_.w_dnm, TB_.w_persons, TB_.w_dishes, TB_.w_law, TB_.w_dogs, cqM_pcs, CP_.w_pcs, tqM_by_, tqM_wd, tqM_tk, tqM_pl, tqM_vl, tqM_len, tqM_n, tqM_at_, tqM_token, tqM_place, tqM_value, tqM_fault, tqM_fat, TP_.w_by_, TP_.w_wd, TP_.w_tk, TP_.w_pl, TP_.w_vl, TP_.w_len, TP_.w_n, TP_.w_at_, TP_.w_token, TP_.w_place, TP_.w_value, TP_.w_fault, TP_.w_fat, xqM_lt, xqM_dt, XP_.w_lt, XP_.w_dt]), kt_47, kn_48⟩ dX9_readPerson_36
  · skip
    have r_207 := le_r (nlt h_19) rc_7 rx_17
    refine g_aload_n C 1 dX9_readPerson_12 rfl rfl ?_
    refine g_iconst C (v := 4) dX9_readPerson_13 (by decide) ?_
    refine g_callVI C K (c_X10_fail W9 hLa0 hka0 4 (rg_w rc_4 (by decide) (by decide)) hU) hLa0 hka0 (by decide) rfl v_9_67 rfl ⟨rfl, rfl⟩ ⟨Nat.le_of_ble_eq_true rfl, Nat.le_of_ble_eq_true rfl⟩ (Nat.le_of_ble_eq_true rfl) ⟨Nat.le_of_ble_eq_true rfl, Nat.le_of_ble_eq_true rfl⟩ dX9_readPerson_14 rfl (st := []) (fun x_208 I_209 J_210 h_211 => ?_)
    obtain ⟨hUI_209, hFI_209, hGJ_210, rx_208, fx_208⟩ := h_211
    have hF_212 := fq_tr hF hFI_209 (by decide)
    have hG_213 := fq_tr hG hGJ_210 (by decide)
    obtain ⟨s_215, hs_215⟩ : ∃ z, TPq I_209 J_210 a0 b_5 b_6 b_7 b_8 b_9 = z := ⟨_, rfl⟩
    have c_214 : fFail (4) (s_10) = (x_208, s_215) := by have q := fx_208; simp only [etqa0, hs_10, hs_215] at q; exact q.symm
    have hs_216 : TBq I_209 J_210 b_1 b_4 b_2 b_11 = s_12 := (bq_fq wbqx_0 hFI_209 hGJ_210 (by decide) (by decide)).trans hs_12
    have hs_217 : CPq I_209 J_210 b_13 b_14 = s_15 := (cq_fq wcqx_1 hFI_209 hGJ_210 (by decide) (by decide)).trans hs_15
    have hs_218 : XPq I_209 J_210 x = s_16 := (xq_fq wxqx hFI_209 hGJ_210 (by decide) (by decide)).trans hs_16
    have kt_219 : Kt_ L κ R I I_209 [rr_ R x 0] := (kt_fq W9 kt_rf hFI_209 (by decide))
    have kn_220 : Kn_ L κ R J J_210 [rr_ R x 0] := (kn_fq W9 kn_rf hGJ_210 (by decide))
    exact g_zret (ty := .boolean) (r := x_208) B K rfl (nar_z (rg_w rx_208 (by decide) (by decide))) ⟨hUI_209, hF_212, hG_213, rg_w rx_208 (by decide) (by decide), (by simp only [fReadPerson, fFailR, fTakeR, fPutPerson, fPutDish, fReadPlate3, etqa0, hs_215, hs_10, ebqx_0, dbqx_0, hs_216, hs_12, ecqx_1, dcqx_1, hs_217, hs_15, exqx, hs_218, hs_16, hx_17, f_18, h_19, (nlt h_19), c_214, if_true, if_false, bqM_pnm, bqM_par, bqM_dnm, bqM_persons, bqM_dishes, bqM_law, bqM_dogs, TB_.w_pnm, TB_.w_par, TB_.w_dnm, TB_.w_persons, TB_.w_dishes, TB_.w_law, TB_.w_dogs, cqM_pcs, CP_.w_pcs, tqM_by_, tqM_wd, tqM_tk, tqM_pl, tqM_vl, tqM_len, tqM_n, tqM_at_, tqM_token, tqM_place, tqM_value, tqM_fault, tqM_fat, TP_.w_by_, TP_.w_wd, TP_.w_tk, TP_.w_pl, TP_.w_vl, TP_.w_len, TP_.w_n, TP_.w_at_, TP_.w_token, TP_.w_place, TP_.w_value, TP_.w_fault, TP_.w_fat, xqM_lt, xqM_dt, XP_.w_lt, XP_.w_dt]), kt_219, kn_220⟩ dX9_readPerson_17
set_option maxRecDepth 100000 in
set_option maxHeartbeats 8000000 in
theorem c_X1_addToPlate {l : Launch} {D : va_G} {cy : Nat → ClassId} {L : List Nat} {κ ln : Nat → Nat} {R : Nat → Nat → Option Nat} {I : Nat → Nat → Int32} {J : Nat → Nat → Int64} {ow : Nat → Nat × Nat} (W9 : ∀ a ∈ L, Shp L κ ln R ow a) {x : Nat} (hLx : x ∈ L) (hkx : κ x = 1) (a0 : Int32) (a1 : Int32) (a2 : Int32) (ra0 : Rg 0 6 a0) (ra1 : Rg 0 5 a1) (hU : Iv L κ R ow I) : CtV l yX1_addToPlate cX1_addToPlate 4 none { frames := 0, cells := 0, slots := 0, locals := 0 } D cy L κ ln R I J [.ref x, .int a0, .int a1, .int a2] (fun I2 J2 => Iv L κ R ow I2 ∧ Fq L κ ow [16200, 16300] I I2 ∧ Fq L κ ow [] J J2 ∧ (CPf R I2 J2 x = fAddToPlate a0 a1 a2 (CPf R I J x))) := by
  refine CtV.of (by decide +kernel) (Nat.le_of_ble_eq_true rfl) ?_
  intro p e s m below meth c B K
  have C := B.1
  have hF : Fq L κ ow [16200, 16300] I I := fq_rf
  have hG : Fq L κ ow [] J J := fq_rf
  obtain ⟨b_1, hb_1, hb_1L, hb_1k, hb_1n, hb_1o⟩ := shp_a (W9 x hLx) hkx 3 14 7 rfl (by decide)
  obtain ⟨b_2, hb_2, hb_2L, hb_2k, hb_2n, hb_2o⟩ := shp_a (W9 x hLx) hkx 2 14 42 rfl (by decide)
  have ecqx : ∀ I J, CPf R I J x = CPq I J x b_2 := fun I J => by simp only [CPf, rr_, Option.getD_some, hb_2]
  have wcqx : cqw_ L κ ow x b_2 := ⟨⟨hLx, hb_2L⟩, ⟨(ro_o hkx (by decide)), (ro_a hb_2k (by decide) hb_2o hkx rfl)⟩⟩
  obtain ⟨s_3, hs_3⟩ : ∃ z, CPq I J x b_2 = z := ⟨_, rfl⟩
  refine g_lo (is := [0, 1, 2, 3]) (lo2 := [(0, .ref x), (1, .int a0), (2, .int a1), (3, .int a2)]) rfl ?_
  refine g_aload_n C 0 dX1_addToPlate_0 rfl rfl ?_
  refine g_getR C K hLx hkx f_1_15 hb_2 dX1_addToPlate_1 ?_
  refine g_iload_n C 1 dX1_addToPlate_4 rfl rfl ?_
  refine g_bipush C (v := 6) dX1_addToPlate_5 (by decide) ?_
  obtain ⟨x_4, hx_4, rx_4⟩ := ex_mulk 0 36 ra0 rc_6 (by decide) (by decide) (by decide) (by decide) (by decide)
  refine g_imul C (v := x_4) dX1_addToPlate_7 hx_4 ?_
  refine g_iload_n C 2 dX1_addToPlate_8 rfl rfl ?_
  obtain ⟨x_5, hx_5, rx_5, tx_5⟩ := ex_add 0 41 rx_4 ra1 (by decide) (by decide) (by decide) (by decide)
  refine g_iadd C (v := x_5) dX1_addToPlate_9 hx_5 ?_
  refine g_dup2 C dX1_addToPlate_10 rfl rfl ?_
  obtain ⟨x_6, hx_6, rx_6⟩ := ex_any (z0 := I b_2 (x_5.toNatClampNeg))
  refine h_iald C K hb_2L hb_2k (v := x_6) (x_5.toNatClampNeg) (rfl) (ix_0 rx_5 (by decide)) (ix_lt rx_5 (by decide) hb_2n (by decide)) hx_6 dX1_addToPlate_11 ?_
  have f_7 : s_3.pcs (x_5.toNatClampNeg) = x_6 := (congrFun (congrArg CP_.pcs hs_3) _).symm.trans hx_6
  refine g_iload_n C 3 dX1_addToPlate_12 rfl rfl ?_
  obtain ⟨x_8, hx_8, rx_8⟩ := ex_any (z0 := x_6 + a2)
  refine g_iadd C (v := x_8) dX1_addToPlate_13 hx_8 ?_
  refine h_iast C K hb_2L hb_2k (x_5.toNatClampNeg) (rfl) (ix_0 rx_5 (by decide)) (ix_lt rx_5 (by decide) hb_2n (by decide)) dX1_addToPlate_14 (fun I_9 hI_9 => ?_)
  have hU_10 := iv_put W9 hU hI_9 (ro_a hb_2k (by decide) hb_2o hkx rfl) (lo := (-2147483648)) (hi := 2147483647) (rfl) (rx_8) rfl
  have hF_11 := fq_puta hF hI_9 (ro_a hb_2k (by decide) hb_2o hkx rfl) (by decide) (by decide)
  have hs_12 : CPq I_9 J x b_2 = (CP_.w_pcs s_3 (up1 (s_3.pcs) (x_5.toNatClampNeg) (x_8))) := by rw [hI_9]; exact ((cq_pcs wcqx).trans (congrArg (fun z : CP_ => CP_.w_pcs z (up1 (z.pcs) (x_5.toNatClampNeg) (x_8))) hs_3)).trans rfl
  refine g_aload_n C 0 dX1_addToPlate_15 rfl rfl ?_
  refine g_getR C K hLx hkx f_1_18 hb_1 dX1_addToPlate_16 ?_
  refine g_iload_n C 1 dX1_addToPlate_19 rfl rfl ?_
  refine g_dup2 C dX1_addToPlate_20 rfl rfl ?_
  obtain ⟨x_13, hx_13, rx_13⟩ := ex_any (z0 := I_9 b_1 (a0.toNatClampNeg))
  refine h_iald C K hb_1L hb_1k (v := x_13) (a0.toNatClampNeg) (rfl) (ix_0 ra0 (by decide)) (ix_lt ra0 (by decide) hb_1n (by decide)) hx_13 dX1_addToPlate_21 ?_
  refine g_iload_n C 3 dX1_addToPlate_22 rfl rfl ?_
  obtain ⟨x_14, hx_14, rx_14⟩ := ex_any (z0 := x_13 + a2)
  refine g_iadd C (v := x_14) dX1_addToPlate_23 hx_14 ?_
  refine h_iast C K hb_1L hb_1k (a0.toNatClampNeg) (rfl) (ix_0 ra0 (by decide)) (ix_lt ra0 (by decide) hb_1n (by decide)) dX1_addToPlate_24 (fun I_15 hI_15 => ?_)
  have hU_16 := iv_put W9 hU_10 hI_15 (ro_a hb_1k (by decide) hb_1o hkx rfl) (lo := (-2147483648)) (hi := 2147483647) (rfl) (rx_14) rfl
  have hF_17 := fq_puta hF_11 hI_15 (ro_a hb_1k (by decide) hb_1o hkx rfl) (by decide) (by decide)
  have hs_18 : CPq I_15 J x b_2 = (CP_.w_pcs s_3 (up1 (s_3.pcs) (x_5.toNatClampNeg) (x_8))) := by rw [hI_15]; exact (cq_oI wcqx (ro_a hb_1k (by decide) hb_1o hkx rfl) (by decide)).trans hs_12
  exact g_vret B K rfl ⟨hU_16, hF_17, hG, (by simp only [fAddToPlate, ecqx, hs_18, hs_3, hx_4, hx_5, hx_6, f_7, hx_8, hx_13, hx_14, if_true, if_false, cqM_pcs, CP_.w_pcs])⟩ dX1_addToPlate_25
set_option maxRecDepth 100000 in
set_option maxHeartbeats 8000000 in
theorem c_X1_onPlate {l : Launch} {D : va_G} {cy : Nat → ClassId} {L : List Nat} {κ ln : Nat → Nat} {R : Nat → Nat → Option Nat} {I : Nat → Nat → Int32} {J : Nat → Nat → Int64} {ow : Nat → Nat × Nat} (W9 : ∀ a ∈ L, Shp L κ ln R ow a) {x : Nat} (hLx : x ∈ L) (hkx : κ x = 1) (a0 : Int32) (a1 : Int32) (ra0 : Rg 0 6 a0) (ra1 : Rg 0 5 a1) (hU : Iv L κ R ow I) : CtI l yX1_onPlate cX1_onPlate 3 (some .int) { frames := 0, cells := 0, slots := 0, locals := 0 } D cy L κ ln R I J [.ref x, .int a0, .int a1] (fun r I2 J2 => I = I2 ∧ J = J2 ∧ Rg (-2147483648) 2147483647 r ∧ (r = fOnPlate a0 a1 (CPf R I J x))) := by
  refine CtI.of (by decide +kernel) (Nat.le_of_ble_eq_true rfl) ?_
  intro p e s m below meth c B K
  have C := B.1
  obtain ⟨b_1, hb_1, hb_1L, hb_1k, hb_1n, hb_1o⟩ := shp_a (W9 x hLx) hkx 2 14 42 rfl (by decide)
  have ecqx : ∀ I J, CPf R I J x = CPq I J x b_1 := fun I J => by simp only [CPf, rr_, Option.getD_some, hb_1]
  have wcqx : cqw_ L κ ow x b_1 := ⟨⟨hLx, hb_1L⟩, ⟨(ro_o hkx (by decide)), (ro_a hb_1k (by decide) hb_1o hkx rfl)⟩⟩
  obtain ⟨s_2, hs_2⟩ : ∃ z, CPq I J x b_1 = z := ⟨_, rfl⟩
  refine g_lo (is := [0, 1, 2]) (lo2 := [(0, .ref x), (1, .int a0), (2, .int a1)]) rfl ?_
  refine g_aload_n C 0 dX1_onPlate_0 rfl rfl ?_
  refine g_getR C K hLx hkx f_1_15 hb_1 dX1_onPlate_1 ?_
  refine g_iload_n C 1 dX1_onPlate_4 rfl rfl ?_
  refine g_bipush C (v := 6) dX1_onPlate_5 (by decide) ?_
  obtain ⟨x_3, hx_3, rx_3⟩ := ex_mulk 0 36 ra0 rc_6 (by decide) (by decide) (by decide) (by decide) (by decide)
  refine g_imul C (v := x_3) dX1_onPlate_7 hx_3 ?_
  refine g_iload_n C 2 dX1_onPlate_8 rfl rfl ?_
  obtain ⟨x_4, hx_4, rx_4, tx_4⟩ := ex_add 0 41 rx_3 ra1 (by decide) (by decide) (by decide) (by decide)
  refine g_iadd C (v := x_4) dX1_onPlate_9 hx_4 ?_
  obtain ⟨x_5, hx_5, rx_5⟩ := ex_any (z0 := I b_1 (x_4.toNatClampNeg))
  refine h_iald C K hb_1L hb_1k (v := x_5) (x_4.toNatClampNeg) (rfl) (ix_0 rx_4 (by decide)) (ix_lt rx_4 (by decide) hb_1n (by decide)) hx_5 dX1_onPlate_10 ?_
  have f_6 : s_2.pcs (x_4.toNatClampNeg) = x_5 := (congrFun (congrArg CP_.pcs hs_2) _).symm.trans hx_5
  exact g_zret (ty := .int) (r := x_5) B K rfl (rfl) ⟨rfl, rfl, rx_5, (by simp only [fOnPlate, ecqx, hs_2, hx_3, hx_4, hx_5, f_6, if_true, if_false, cqM_pcs, CP_.w_pcs])⟩ dX1_onPlate_11
set_option maxRecDepth 100000 in
set_option maxHeartbeats 8000000 in
theorem c_X9_readPlate {l : Launch} {D : va_G} {cy : Nat → ClassId} {L : List Nat} {κ ln : Nat → Nat} {R : Nat → Nat → Option Nat} {I : Nat → Nat → Int32} {J : Nat → Nat → Int64} {ow : Nat → Nat × Nat} (W9 : ∀ a ∈ L, Shp L κ ln R ow a) {x : Nat} (hLx : x ∈ L) (hkx : κ x = 9) {a0 : Nat} (hLa0 : a0 ∈ L) (hka0 : κ a0 = 10) (hU : Iv L κ R ow I) : CtI l yX9_readPlate cX9_readPlate 5 (some .boolean) { frames := 2, cells := 0, slots := 0, locals := 44 } D cy L κ ln R I J [.ref x, .ref a0] (fun r I2 J2 => Iv L κ R ow I2 ∧ Fq L κ ow [1007, 1008, 1009, 1011, 1012, 16200, 16300] I I2 ∧ Fq L κ ow [1010] J J2 ∧ Rg 0 1 r ∧ ((r, TPf R I2 J2 a0, TBf R I2 J2 (rr_ R x 0), CPf R I2 J2 (rr_ R x 1), XPf R I2 J2 x) = fReadPlate (TPf R I J a0) (TBf R I J (rr_ R x 0)) (CPf R I J (rr_ R x 1)) (XPf R I J x)) ∧ (Kt_ L κ R I I2 [rr_ R x 0])) := by
  refine CtI.of (by decide +kernel) (Nat.le_of_ble_eq_true rfl) ?_
  intro p e s m below meth c B K
  have C := B.1
  have hF : Fq L κ ow [1007, 1008, 1009, 1011, 1012, 16200, 16300] I I := fq_rf
  have hG : Fq L κ ow [1010] J J := fq_rf
  obtain ⟨b_1, hb_1, hb_1L, hb_1k⟩ := shp_o (W9 x hLx) hkx 1 1 rfl (by decide)
  obtain ⟨b_2, hb_2, hb_2L, hb_2k⟩ := shp_o (W9 x hLx) hkx 0 8 rfl (by decide)
  obtain ⟨b_3, hb_3, hb_3L, hb_3k, hb_3n, hb_3o⟩ := shp_a (W9 a0 hLa0) hka0 0 13 940 rfl (by decide)
  obtain ⟨b_4, hb_4, hb_4L, hb_4k, hb_4n, hb_4o⟩ := shp_a (W9 a0 hLa0) hka0 1 15 28 rfl (by decide)
  obtain ⟨b_5, hb_5, hb_5L, hb_5k, hb_5n, hb_5o⟩ := shp_a (W9 a0 hLa0) hka0 2 14 901 rfl (by decide)
  obtain ⟨b_6, hb_6, hb_6L, hb_6k, hb_6n, hb_6o⟩ := shp_a (W9 a0 hLa0) hka0 3 14 901 rfl (by decide)
  obtain ⟨b_7, hb_7, hb_7L, hb_7k, hb_7n, hb_7o⟩ := shp_a (W9 a0 hLa0) hka0 4 15 901 rfl (by decide)
  have etqa0 : ∀ I J, TPf R I J a0 = TPq I J a0 b_3 b_4 b_5 b_6 b_7 := fun I J => by simp only [TPf, rr_, Option.getD_some, hb_3, hb_4, hb_5, hb_6, hb_7]
  have wtqa0 : tqw_ L κ ow a0 b_3 b_4 b_5 b_6 b_7 := ⟨⟨hLa0, hb_3L, hb_4L, hb_5L, hb_6L, hb_7L⟩, ⟨(ro_o hka0 (by decide)), (ro_a hb_3k (by decide) hb_3o hka0 rfl), (ro_a hb_4k (by decide) hb_4o hka0 rfl), (ro_a hb_5k (by decide) hb_5o hka0 rfl), (ro_a hb_6k (by decide) hb_6o hka0 rfl), (ro_a hb_7k (by decide) hb_7o hka0 rfl)⟩⟩
  obtain ⟨s_8, hs_8⟩ : ∃ z, TPq I J a0 b_3 b_4 b_5 b_6 b_7 = z := ⟨_, rfl⟩
  obtain ⟨b_9, hb_9, hb_9L, hb_9k, hb_9n, hb_9o⟩ := shp_a (W9 b_2 hb_2L) hb_2k 0 15 7 rfl (by decide)
  obtain ⟨b_10, hb_10, hb_10L, hb_10k, hb_10n, hb_10o⟩ := shp_a (W9 b_2 hb_2L) hb_2k 2 14 7 rfl (by decide)
  obtain ⟨b_11, hb_11, hb_11L, hb_11k, hb_11n, hb_11o⟩ := shp_a (W9 b_2 hb_2L) hb_2k 3 15 6 rfl (by decide)
  have ebqx_0 : ∀ I J, TBf R I J (rr_ R x 0) = TBq I J b_2 b_9 b_10 b_11 := fun I J => by simp only [TBf, rr_, Option.getD_some, hb_9, hb_10, hb_11, hb_2]
  have dbqx_0 : ∀ I J, TBf R I J b_2 = TBq I J b_2 b_9 b_10 b_11 := fun I J => by simp only [TBf, rr_, Option.getD_some, hb_9, hb_10, hb_11, hb_2]
  have wbqx_0 : bqw_ L κ ow b_2 b_9 b_10 b_11 := ⟨⟨hb_2L, hb_9L, hb_10L, hb_11L⟩, ⟨(ro_o hb_2k (by decide)), (ro_a hb_9k (by decide) hb_9o hb_2k rfl), (ro_a hb_10k (by decide) hb_10o hb_2k rfl), (ro_a hb_11k (by decide) hb_11o hb_2k rfl)⟩⟩
  obtain ⟨s_12, hs_12⟩ : ∃ z, TBq I J b_2 b_9 b_10 b_11 = z := ⟨_, rfl⟩
  obtain ⟨b_13, hb_13, hb_13L, hb_13k, hb_13n, hb_13o⟩ := shp_a (W9 b_1 hb_1L) hb_1k 2 14 42 rfl (by decide)
  have ecqx_1 : ∀ I J, CPf R I J (rr_ R x 1) = CPq I J b_1 b_13 := fun I J => by simp only [CPf, rr_, Option.getD_some, hb_13, hb_1]
  have dcqx_1 : ∀ I J, CPf R I J b_1 = CPq I J b_1 b_13 := fun I J => by simp only [CPf, rr_, Option.getD_some, hb_13, hb_1]
  have wcqx_1 : cqw_ L κ ow b_1 b_13 := ⟨⟨hb_1L, hb_13L⟩, ⟨(ro_o hb_1k (by decide)), (ro_a hb_13k (by decide) hb_13o hb_1k rfl)⟩⟩
  obtain ⟨s_14, hs_14⟩ : ∃ z, CPq I J b_1 b_13 = z := ⟨_, rfl⟩
  have exqx : ∀ I J, XPf R I J x = XPq I J x := fun I J => by simp only [XPf, rr_, Option.getD_some]
  have wxqx : xqw_ L κ ow x := ⟨hLx, (ro_o hkx (by decide))⟩
  obtain ⟨s_15, hs_15⟩ : ∃ z, XPq I J x = z := ⟨_, rfl⟩
  refine g_lo (is := [0, 1]) (lo2 := [(0, .ref x), (1, .ref a0)]) rfl ?_
  refine g_aload_n C 1 dX9_readPlate_0 rfl rfl ?_
  refine g_callVV C K (c_X10_advance W9 hLa0 hka0   hU) hLa0 hka0 (by decide) rfl v_9_82 rfl ⟨rfl, rfl⟩ ⟨Nat.le_of_ble_eq_true rfl, Nat.le_of_ble_eq_true rfl⟩ (Nat.le_of_ble_eq_true rfl) ⟨Nat.le_of_ble_eq_true rfl, Nat.le_of_ble_eq_true rfl⟩ dX9_readPlate_1 rfl (st := []) (fun I_17 J_18 h_19 => ?_)
  obtain ⟨hUI_17, hFI_17, hGJ_18, fx_16⟩ := h_19
  have hF_20 := fq_tr hF hFI_17 (by decide)
  have hG_21 := fq_tr hG hGJ_18 (by decide)
  obtain ⟨s_23, hs_23⟩ : ∃ z, TPq I_17 J_18 a0 b_3 b_4 b_5 b_6 b_7 = z := ⟨_, rfl⟩
  have c_22 : fAdvance (s_8) = s_23 := by have q := fx_16; simp only [etqa0, hs_8, hs_23] at q; exact q.symm
  have hs_24 : TBq I_17 J_18 b_2 b_9 b_10 b_11 = s_12 := (bq_fq wbqx_0 hFI_17 hGJ_18 (by decide) (by decide)).trans hs_12
  have hs_25 : CPq I_17 J_18 b_1 b_13 = s_14 := (cq_fq wcqx_1 hFI_17 hGJ_18 (by decide) (by decide)).trans hs_14
  have hs_26 : XPq I_17 J_18 x = s_15 := (xq_fq wxqx hFI_17 hGJ_18 (by decide) (by decide)).trans hs_15
  have kt_27 : Kt_ L κ R I I_17 [rr_ R x 0] := (kt_fq W9 kt_rf hFI_17 (by decide))
  refine g_aload_n C 1 dX9_readPlate_4 rfl rfl ?_
  refine g_aload_n C 0 dX9_readPlate_5 rfl rfl ?_
  refine g_getR C K hLx hkx f_9_12 hb_2 dX9_readPlate_6 ?_
  refine g_aload_n C 1 dX9_readPlate_9 rfl rfl ?_
  obtain ⟨y_28, hy_28⟩ : ∃ z, J_18 a0 10 = z := ⟨_, rfl⟩
  have f_29 : s_23.value = y_28 := (congrArg TP_.value hs_23).symm.trans hy_28
  refine g_getJ C K hLa0 hka0 f_9_71 (v := y_28) hy_28 dX9_readPlate_10 ?_
  refine g_callVI C K (c_X8_personNamed W9 hb_2L hb_2k y_28  hUI_17) hb_2L hb_2k (by decide) rfl v_9_75 rfl ⟨rfl, rfl⟩ ⟨Nat.le_of_ble_eq_true rfl, Nat.le_of_ble_eq_true rfl⟩ (Nat.le_of_ble_eq_true rfl) ⟨Nat.le_of_ble_eq_true rfl, Nat.le_of_ble_eq_true rfl⟩ dX9_readPlate_13 rfl (st := [.ref a0]) (fun x_30 I_31 J_32 h_33 => ?_)
  obtain ⟨rfl, rfl, rx_30, fx_30⟩ := h_33
  have c_34 : fPersonNamed (y_28) (s_12) = x_30 := by have q := fx_30; simp only [ebqx_0, dbqx_0, hs_24] at q; exact q.symm
  refine g_callVI C K (c_X10_takeName W9 hLa0 hka0 x_30 (rx_30) hUI_17) hLa0 hka0 (by decide) rfl v_9_95 rfl ⟨rfl, rfl⟩ ⟨Nat.le_of_ble_eq_true rfl, Nat.le_of_ble_eq_true rfl⟩ (Nat.le_of_ble_eq_true rfl) ⟨Nat.le_of_ble_eq_true rfl, Nat.le_of_ble_eq_true rfl⟩ dX9_readPlate_16 rfl (st := []) (fun x_35 I_36 J_37 h_38 => ?_)
  obtain ⟨hUI_36, hFI_36, hGJ_37, rx_35, fx_35, ex_35⟩ := h_38
  have hF_39 := fq_tr hF_20 hFI_36 (by decide)
  have hG_40 := fq_tr hG_21 hGJ_37 (by decide)
  obtain ⟨s_42, hs_42⟩ : ∃ z, TPq I_36 J_37 a0 b_3 b_4 b_5 b_6 b_7 = z := ⟨_, rfl⟩
  have c_41 : fTakeName (x_30) (s_23) = (x_35, s_42) := by have q := fx_35; simp only [etqa0, hs_23, hs_42] at q; exact q.symm
  have hs_43 : TBq I_36 J_37 b_2 b_9 b_10 b_11 = s_12 := (bq_fq wbqx_0 hFI_36 hGJ_37 (by decide) (by decide)).trans hs_24
  have hs_44 : CPq I_36 J_37 b_1 b_13 = s_14 := (cq_fq wcqx_1 hFI_36 hGJ_37 (by decide) (by decide)).trans hs_25
  have hs_45 : XPq I_36 J_37 x = s_15 := (xq_fq wxqx hFI_36 hGJ_37 (by decide) (by decide)).trans hs_26
  have kt_46 : Kt_ L κ R I I_36 [rr_ R x 0] := (kt_fq W9 kt_27 hFI_36 (by decide))
  have r_47 : Rg (-1) 6 x_35 := rg_or ex_35 (rx_30) (by decide) (by decide)
  refine g_istore_n C dX9_readPlate_19 rfl (by decide) (lo2 := [(2, .int x_35), (0, .ref x), (1, .ref a0)]) rfl ?_
  refine g_iload_n C 0 dX9_readPlate_20 rfl rfl ?_
  refine g_iconst C (v := (-1)) dX9_readPlate_21 (by decide) ?_
  refine g_icmp_ne C (tgt := 27) dX9_readPlate_22 (by decide) (fun h_48 => ?_) (fun h_48 => ?_)
  · skip
    have n_49 : ¬ x_35 = (-1) := h_48
    have r_50 := ne_lo (lo := 0) n_49 r_47 rc_m1 rfl (by decide)
    have r_51 := eq_rg (Eq.symm (Or.resolve_left ex_35 (rg_nek r_50 rc_m1 (by decide)))) r_50
    refine g_aload_n C 1 dX9_readPlate_27 rfl rfl ?_
    refine g_getR C K hLx hkx f_9_12 hb_2 dX9_readPlate_28 ?_
    refine g_aload_n C 2 dX9_readPlate_31 rfl rfl ?_
    obtain ⟨y_52, hy_52⟩ : ∃ z, J_37 a0 10 = z := ⟨_, rfl⟩
    have f_53 : s_42.value = y_52 := (congrArg TP_.value hs_42).symm.trans hy_52
    refine g_getJ C K hLa0 hka0 f_9_71 (v := y_52) hy_52 dX9_readPlate_32 ?_
    refine g_callVI C K (c_X8_dishNamed W9 hb_2L hb_2k y_52  hUI_36) hb_2L hb_2k (by decide) rfl v_9_79 rfl ⟨rfl, rfl⟩ ⟨Nat.le_of_ble_eq_true rfl, Nat.le_of_ble_eq_true rfl⟩ (Nat.le_of_ble_eq_true rfl) ⟨Nat.le_of_ble_eq_true rfl, Nat.le_of_ble_eq_true rfl⟩ dX9_readPlate_35 rfl (st := []) (fun x_54 I_55 J_56 h_57 => ?_)
    obtain ⟨rfl, rfl, rx_54, fx_54⟩ := h_57
    have c_58 : fDishNamed (y_52) (s_12) = x_54 := by have q := fx_54; simp only [ebqx_0, dbqx_0, hs_43] at q; exact q.symm
    refine g_istore_n C dX9_readPlate_38 rfl (by decide) (lo2 := [(3, .int x_54), (2, .int x_35), (0, .ref x), (1, .ref a0)]) rfl ?_
    refine g_aload_n C 3 dX9_readPlate_39 rfl rfl ?_
    obtain ⟨x_59, hx_59, rx_59⟩ := ex_get (I := I_36) (a := a0) (j := 8) (lo := (-2147483648)) (hi := 2147483647) hUI_36.1 hLa0 (ro_o hka0 (by decide)) rfl
    have f_60 : s_42.token = x_59 := (congrArg TP_.token hs_42).symm.trans hx_59
    refine g_getI C K hLa0 hka0 f_9_44 (v := x_59) hx_59 dX9_readPlate_40 ?_
    refine g_bipush C (v := 100) dX9_readPlate_43 (by decide) ?_
    refine g_icmp_ne C (tgt := 71) dX9_readPlate_45 (by decide) (fun h_61 => ?_) (fun h_61 => ?_)
    · skip
      have n_62 : ¬ x_59 = 100 := h_61
      refine g_aload_n C 3 dX9_readPlate_71 rfl rfl ?_
      refine g_iload_n C 0 dX9_readPlate_72 rfl rfl ?_
      refine g_callVI C K (c_X10_takeName W9 hLa0 hka0 x_54 (rg_w rx_54 (by decide) (by decide)) hUI_36) hLa0 hka0 (by decide) rfl v_9_95 rfl ⟨rfl, rfl⟩ ⟨Nat.le_of_ble_eq_true rfl, Nat.le_of_ble_eq_true rfl⟩ (Nat.le_of_ble_eq_true rfl) ⟨Nat.le_of_ble_eq_true rfl, Nat.le_of_ble_eq_true rfl⟩ dX9_readPlate_73 rfl (st := []) (fun x_63 I_64 J_65 h_66 => ?_)
      obtain ⟨hUI_64, hFI_64, hGJ_65, rx_63, fx_63, ex_63⟩ := h_66
      have hF_67 := fq_tr hF_39 hFI_64 (by decide)
      have hG_68 := fq_tr hG_40 hGJ_65 (by decide)
      obtain ⟨s_70, hs_70⟩ : ∃ z, TPq I_64 J_65 a0 b_3 b_4 b_5 b_6 b_7 = z := ⟨_, rfl⟩
      have c_69 : fTakeName (x_54) (s_42) = (x_63, s_70) := by have q := fx_63; simp only [etqa0, hs_42, hs_70] at q; exact q.symm
      have hs_71 : TBq I_64 J_65 b_2 b_9 b_10 b_11 = s_12 := (bq_fq wbqx_0 hFI_64 hGJ_65 (by decide) (by decide)).trans hs_43
      have hs_72 : CPq I_64 J_65 b_1 b_13 = s_14 := (cq_fq wcqx_1 hFI_64 hGJ_65 (by decide) (by decide)).trans hs_44
      have hs_73 : XPq I_64 J_65 x = s_15 := (xq_fq wxqx hFI_64 hGJ_65 (by decide) (by decide)).trans hs_45
      have kt_74 : Kt_ L κ R I I_64 [rr_ R x 0] := (kt_fq W9 kt_46 hFI_64 (by decide))
      have r_75 : Rg (-1) 5 x_63 := rg_or ex_63 (rx_54) (by decide) (by decide)
      refine g_iconst C (v := (-1)) dX9_readPlate_76 (by decide) ?_
      refine g_icmp_ne C (tgt := 82) dX9_readPlate_77 (by decide) (fun h_76 => ?_) (fun h_76 => ?_)
      · skip
        have n_77 : ¬ x_63 = (-1) := h_76
        have r_78 := ne_lo (lo := 0) n_77 r_75 rc_m1 rfl (by decide)
        have r_79 := eq_rg (Eq.symm (Or.resolve_left ex_63 (rg_nek r_78 rc_m1 (by decide)))) r_78
        refine g_aload_n C 3 dX9_readPlate_82 rfl rfl ?_
        refine g_iconst C (v := 1) dX9_readPlate_83 (by decide) ?_
        refine g_bipush C (v := 40) dX9_readPlate_84 (by decide) ?_
        refine g_callVI C K (c_X10_takeNumber W9 hLa0 hka0 1 40 (rg_w rc_1 (by decide) (by decide)) (rg_w rc_40 (by decide) (by decide)) hUI_64) hLa0 hka0 (by decide) rfl v_9_91 rfl ⟨rfl, rfl⟩ ⟨Nat.le_of_ble_eq_true rfl, Nat.le_of_ble_eq_true rfl⟩ (Nat.le_of_ble_eq_true rfl) ⟨Nat.le_of_ble_eq_true rfl, Nat.le_of_ble_eq_true rfl⟩ dX9_readPlate_86 rfl (st := []) (fun x_80 I_81 J_82 h_83 => ?_)
        obtain ⟨hUI_81, hFI_81, hGJ_82, rx_80, fx_80⟩ := h_83
        have hF_84 := fq_tr hF_67 hFI_81 (by decide)
        have hG_85 := fq_tr hG_68 hGJ_82 (by decide)
        obtain ⟨s_87, hs_87⟩ : ∃ z, TPq I_81 J_82 a0 b_3 b_4 b_5 b_6 b_7 = z := ⟨_, rfl⟩
        have c_86 : fTakeNumber (1) (40) (s_70) = (x_80, s_87) := by have q := fx_80; simp only [etqa0, hs_70, hs_87] at q; exact q.symm
        have hs_88 : TBq I_81 J_82 b_2 b_9 b_10 b_11 = s_12 := (bq_fq wbqx_0 hFI_81 hGJ_82 (by decide) (by decide)).trans hs_71
        have hs_89 : CPq I_81 J_82 b_1 b_13 = s_14 := (cq_fq wcqx_1 hFI_81 hGJ_82 (by decide) (by decide)).trans hs_72
        have hs_90 : XPq I_81 J_82 x = s_15 := (xq_fq wxqx hFI_81 hGJ_82 (by decide) (by decide)).trans hs_73
        have kt_91 : Kt_ L κ R I I_81 [rr_ R x 0] := (kt_fq W9 kt_74 hFI_81 (by decide))
        refine g_istore C dX9_readPlate_89 (by decide) (lo2 := [(4, .int x_80), (3, .int x_54), (2, .int x_35), (0, .ref x), (1, .ref a0)]) rfl ?_
        refine g_iload C 0 dX9_readPlate_91 rfl ?_
        refine g_iconst C (v := (-1)) dX9_readPlate_93 (by decide) ?_
        refine g_icmp_ne C (tgt := 99) dX9_readPlate_94 (by decide) (fun h_92 => ?_) (fun h_92 => ?_)
        · skip
          have n_93 : ¬ x_80 = (-1) := h_92
          refine g_aload_n C 3 dX9_readPlate_99 rfl rfl ?_
          refine g_getR C K hLx hkx f_9_23 hb_1 dX9_readPlate_100 ?_
          refine g_iload_n C 2 dX9_readPlate_103 rfl rfl ?_
          refine g_iload_n C 1 dX9_readPlate_104 rfl rfl ?_
          refine g_iload C 0 dX9_readPlate_105 rfl ?_
          refine g_callVV C K (c_X1_addToPlate W9 hb_1L hb_1k x_35 x_54 x_80 (r_50) (r_79) hUI_81) hb_1L hb_1k (by decide) rfl v_9_128 rfl ⟨rfl, rfl⟩ ⟨Nat.le_of_ble_eq_true rfl, Nat.le_of_ble_eq_true rfl⟩ (Nat.le_of_ble_eq_true rfl) ⟨Nat.le_of_ble_eq_true rfl, Nat.le_of_ble_eq_true rfl⟩ dX9_readPlate_107 rfl (st := []) (fun I_95 J_96 h_97 => ?_)
          obtain ⟨hUI_95, hFI_95, hGJ_96, fx_94⟩ := h_97
          have hF_98 := fq_tr hF_84 hFI_95 (by decide)
          have hG_99 := fq_tr hG_85 hGJ_96 (by decide)
          obtain ⟨s_101, hs_101⟩ : ∃ z, CPq I_95 J_96 b_1 b_13 = z := ⟨_, rfl⟩
          have c_100 : fAddToPlate (x_35) (x_54) (x_80) (s_14) = s_101 := by have q := fx_94; simp only [ecqx_1, dcqx_1, hs_89, hs_101] at q; exact q.symm
          have hs_102 : TPq I_95 J_96 a0 b_3 b_4 b_5 b_6 b_7 = s_87 := (tq_fq wtqa0 hFI_95 hGJ_96 (by decide) (by decide)).trans hs_87
          have hs_103 : TBq I_95 J_96 b_2 b_9 b_10 b_11 = s_12 := (bq_fq wbqx_0 hFI_95 hGJ_96 (by decide) (by decide)).trans hs_88
          have hs_104 : XPq I_95 J_96 x = s_15 := (xq_fq wxqx hFI_95 hGJ_96 (by decide) (by decide)).trans hs_90
          have kt_105 : Kt_ L κ R I I_95 [rr_ R x 0] := (kt_fq W9 kt_91 hFI_95 (by decide))
          refine g_aload_n C 4 dX9_readPlate_110 rfl rfl ?_
          refine g_bipush C (v := 59) dX9_readPlate_111 (by decide) ?_
          refine g_callVI C K (c_X10_take W9 hLa0 hka0 59 (rg_w rc_59 (by decide) (by decide)) hUI_95) hLa0 hka0 (by decide) rfl v_9_110 rfl ⟨rfl, rfl⟩ ⟨Nat.le_of_ble_eq_true rfl, Nat.le_of_ble_eq_true rfl⟩ (Nat.le_of_ble_eq_true rfl) ⟨Nat.le_of_ble_eq_true rfl, Nat.le_of_ble_eq_true rfl⟩ dX9_readPlate_113 rfl (st := []) (fun x_106 I_107 J_108 h_109 => ?_)
          obtain ⟨hUI_107, hFI_107, hGJ_108, rx_106, fx_106⟩ := h_109
          have hF_110 := fq_tr hF_98 hFI_107 (by decide)
          have hG_111 := fq_tr hG_99 hGJ_108 (by decide)
          obtain ⟨s_113, hs_113⟩ : ∃ z, TPq I_107 J_108 a0 b_3 b_4 b_5 b_6 b_7 = z := ⟨_, rfl⟩
          have c_112 : fTake (59) (s_87) = (x_106, s_113) := by have q := fx_106; simp only [etqa0, hs_102, hs_113] at q; exact q.symm
          have hs_114 : TBq I_107 J_108 b_2 b_9 b_10 b_11 = s_12 := (bq_fq wbqx_0 hFI_107 hGJ_108 (by decide) (by decide)).trans hs_103
          have hs_115 : CPq I_107 J_108 b_1 b_13 = s_101 := (cq_fq wcqx_1 hFI_107 hGJ_108 (by decide) (by decide)).trans hs_101
          have hs_116 : XPq I_107 J_108 x = s_15 := (xq_fq wxqx hFI_107 hGJ_108 (by decide) (by decide)).trans hs_104
          have kt_117 : Kt_ L κ R I I_107 [rr_ R x 0] := (kt_fq W9 kt_105 hFI_107 (by decide))
          exact g_zret (ty := .boolean) (r := x_106) B K rfl (nar_z (rx_106)) ⟨hUI_107, hF_110, hG_111, rx_106, (by simp only [fReadPlate, fFailR, fTakeR, fPutPerson, fPutDish, fReadPlate3, etqa0, hs_113, hs_8, ebqx_0, dbqx_0, hs_114, hs_12, ecqx_1, dcqx_1, hs_115, hs_14, exqx, hs_116, hs_15, c_22, hy_28, f_29, c_34, c_41, h_48, hy_52, f_53, c_58, hx_59, f_60, h_61, c_69, h_76, c_86, h_92, c_100, c_112, if_true, if_false, bqM_pnm, bqM_par, bqM_dnm, bqM_persons, bqM_dishes, bqM_law, bqM_dogs, TB_.w_pnm, TB_.w_par, TB_.w_dnm, TB_.w_persons, TB_.w_dishes, TB_.w_law, TB_.w_dogs, cqM_pcs, CP_.w_pcs, tqM_by_, tqM_wd, tqM_tk, tqM_pl, tqM_vl, tqM_len, tqM_n, tqM_at_, tqM_token, tqM_place, tqM_value, tqM_fault, tqM_fat, TP_.w_by_, TP_.w_wd, TP_.w_tk, TP_.w_pl, TP_.w_vl, TP_.w_len, TP_.w_n, TP_.w_at_, TP_.w_token, TP_.w_place, TP_.w_value, TP_.w_fault, TP_.w_fat, xqM_lt, xqM_dt, XP_.w_lt, XP_.w_dt]), kt_117⟩ dX9_readPlate_116
        · skip
          have r_118 := (⟨(eq_rg (h_92) rc_m1).1, (eq_rg (h_92) rc_m1).2⟩ : Rg (-1) (-1) x_80)
          refine g_iconst C (v := 0) dX9_readPlate_97 (by decide) ?_
          exact g_zret (ty := .boolean) (r := 0) B K rfl (rfl) ⟨hUI_81, hF_84, hG_85, rg_w rc_0 (by decide) (by decide), (by simp only [fReadPlate, fFailR, fTakeR, fPutPerson, fPutDish, fReadPlate3, etqa0, hs_87, hs_8, ebqx_0, dbqx_0, hs_88, hs_12, ecqx_1, dcqx_1, hs_89, hs_14, exqx, hs_90, hs_15, c_22, hy_28, f_29, c_34, c_41, h_48, hy_52, f_53, c_58, hx_59, f_60, h_61, c_69, h_76, c_86, (eq_true h_92), if_true, if_false, bqM_pnm, bqM_par, bqM_dnm, bqM_persons, bqM_dishes, bqM_law, bqM_dogs, TB_.w_pnm, TB_.w_par, TB_.w_dnm, TB_.w_persons, TB_.w_dishes, TB_.w_law, TB_.w_dogs, cqM_pcs, CP_.w_pcs, tqM_by_, tqM_wd, tqM_tk, tqM_pl, tqM_vl, tqM_len, tqM_n, tqM_at_, tqM_token, tqM_place, tqM_value, tqM_fault, tqM_fat, TP_.w_by_, TP_.w_wd, TP_.w_tk, TP_.w_pl, TP_.w_vl, TP_.w_len, TP_.w_n, TP_.w_at_, TP_.w_token, TP_.w_place, TP_.w_value, TP_.w_fault, TP_.w_fat, xqM_lt, xqM_dt, XP_.w_lt, XP_.w_dt]), kt_91⟩ dX9_readPlate_98
      · skip
        have r_119 := (⟨(r_75).1, (eq_rg (h_76) rc_m1).2⟩ : Rg (-1) (-1) x_63)
        refine g_iconst C (v := 0) dX9_readPlate_80 (by decide) ?_
        exact g_zret (ty := .boolean) (r := 0) B K rfl (rfl) ⟨hUI_64, hF_67, hG_68, rg_w rc_0 (by decide) (by decide), (by simp only [fReadPlate, fFailR, fTakeR, fPutPerson, fPutDish, fReadPlate3, etqa0, hs_70, hs_8, ebqx_0, dbqx_0, hs_71, hs_12, ecqx_1, dcqx_1, hs_72, hs_14, exqx, hs_73, hs_15, c_22, hy_28, f_29, c_34, c_41, h_48, hy_52, f_53, c_58, hx_59, f_60, h_61, c_69, (eq_true h_76), if_true, if_false, bqM_pnm, bqM_par, bqM_dnm, bqM_persons, bqM_dishes, bqM_law, bqM_dogs, TB_.w_pnm, TB_.w_par, TB_.w_dnm, TB_.w_persons, TB_.w_dishes, TB_.w_law, TB_.w_dogs, cqM_pcs, CP_.w_pcs, tqM_by_, tqM_wd, tqM_tk, tqM_pl, tqM_vl, tqM_len, tqM_n, tqM_at_, tqM_token, tqM_place, tqM_value, tqM_fault, tqM_fat, TP_.w_by_, TP_.w_wd, TP_.w_tk, TP_.w_pl, TP_.w_vl, TP_.w_len, TP_.w_n, TP_.w_at_, TP_.w_token, TP_.w_place, TP_.w_value, TP_.w_fault, TP_.w_fat, xqM_lt, xqM_dt, XP_.w_lt, XP_.w_dt]), kt_74⟩ dX9_readPlate_81
    · skip
      have r_120 := (⟨(eq_rg (h_61) rc_100).1, (eq_rg (h_61) rc_100).2⟩ : Rg 100 100 x_59)
      refine g_iload_n C 0 dX9_readPlate_48 rfl rfl ?_
      refine g_iconst C (v := (-1)) dX9_readPlate_49 (by decide) ?_
      refine g_icmp_eq C (tgt := 71) dX9_readPlate_50 (by decide) (fun h_121 => ?_) (fun h_121 => ?_)
      · skip
        have r_122 := (⟨(rx_54).1, (eq_rg (h_121) rc_m1).2⟩ : Rg (-1) (-1) x_54)
        refine g_aload_n C 3 dX9_readPlate_71 rfl rfl ?_
        refine g_iload_n C 0 dX9_readPlate_72 rfl rfl ?_
        refine g_callVI C K (c_X10_takeName W9 hLa0 hka0 x_54 (rg_w r_122 (by decide) (by decide)) hUI_36) hLa0 hka0 (by decide) rfl v_9_95 rfl ⟨rfl, rfl⟩ ⟨Nat.le_of_ble_eq_true rfl, Nat.le_of_ble_eq_true rfl⟩ (Nat.le_of_ble_eq_true rfl) ⟨Nat.le_of_ble_eq_true rfl, Nat.le_of_ble_eq_true rfl⟩ dX9_readPlate_73 rfl (st := []) (fun x_123 I_124 J_125 h_126 => ?_)
        obtain ⟨hUI_124, hFI_124, hGJ_125, rx_123, fx_123, ex_123⟩ := h_126
        have hF_127 := fq_tr hF_39 hFI_124 (by decide)
        have hG_128 := fq_tr hG_40 hGJ_125 (by decide)
        obtain ⟨s_130, hs_130⟩ : ∃ z, TPq I_124 J_125 a0 b_3 b_4 b_5 b_6 b_7 = z := ⟨_, rfl⟩
        have c_129 : fTakeName (x_54) (s_42) = (x_123, s_130) := by have q := fx_123; simp only [etqa0, hs_42, hs_130] at q; exact q.symm
        have hs_131 : TBq I_124 J_125 b_2 b_9 b_10 b_11 = s_12 := (bq_fq wbqx_0 hFI_124 hGJ_125 (by decide) (by decide)).trans hs_43
        have hs_132 : CPq I_124 J_125 b_1 b_13 = s_14 := (cq_fq wcqx_1 hFI_124 hGJ_125 (by decide) (by decide)).trans hs_44
        have hs_133 : XPq I_124 J_125 x = s_15 := (xq_fq wxqx hFI_124 hGJ_125 (by decide) (by decide)).trans hs_45
        have kt_134 : Kt_ L κ R I I_124 [rr_ R x 0] := (kt_fq W9 kt_46 hFI_124 (by decide))
        have r_135 : Rg (-1) (-1) x_123 := rg_or ex_123 (r_122) (by decide) (by decide)
        refine g_iconst C (v := (-1)) dX9_readPlate_76 (by decide) ?_
        refine g_icmp_ne C (tgt := 82) dX9_readPlate_77 (by decide) (fun h_136 => ?_) (fun h_136 => ?_)
        · skip
          exact ne_no (h_136) r_135 rc_m1
        · skip
          refine g_iconst C (v := 0) dX9_readPlate_80 (by decide) ?_
          exact g_zret (ty := .boolean) (r := 0) B K rfl (rfl) ⟨hUI_124, hF_127, hG_128, rg_w rc_0 (by decide) (by decide), (by simp only [fReadPlate, fFailR, fTakeR, fPutPerson, fPutDish, fReadPlate3, etqa0, hs_130, hs_8, ebqx_0, dbqx_0, hs_131, hs_12, ecqx_1, dcqx_1, hs_132, hs_14, exqx, hs_133, hs_15, c_22, hy_28, f_29, c_34, c_41, h_48, hy_52, f_53, c_58, hx_59, f_60, (eq_true h_61), (eq_true h_121), c_129, (eq_true h_136), if_true, if_false, bqM_pnm, bqM_par, bqM_dnm, bqM_persons, bqM_dishes, bqM_law, bqM_dogs, TB_.w_pnm, TB_.w_par, TB_.w_dnm, TB_.w_persons, TB_.w_dishes, TB_.w_law, TB_.w_dogs, cqM_pcs, CP_.w_pcs, tqM_by_, tqM_wd, tqM_tk, tqM_pl, tqM_vl, tqM_len, tqM_n, tqM_at_, tqM_token, tqM_place, tqM_value, tqM_fault, tqM_fat, TP_.w_by_, TP_.w_wd, TP_.w_tk, TP_.w_pl, TP_.w_vl, TP_.w_len, TP_.w_n, TP_.w_at_, TP_.w_token, TP_.w_place, TP_.w_value, TP_.w_fault, TP_.w_fat, xqM_lt, xqM_dt, XP_.w_lt, XP_.w_dt]), kt_134⟩ dX9_readPlate_81
      · skip
        have n_137 : ¬ x_54 = (-1) := h_121
        have r_138 := ne_lo (lo := 0) n_137 rx_54 rc_m1 rfl (by decide)
        refine g_aload_n C 2 dX9_readPlate_53 rfl rfl ?_
        refine g_getR C K hLx hkx f_9_23 hb_1 dX9_readPlate_54 ?_
        refine g_iload_n C 1 dX9_readPlate_57 rfl rfl ?_
        refine g_iload_n C 0 dX9_readPlate_58 rfl rfl ?_
        refine g_callVI C K (c_X1_onPlate W9 hb_1L hb_1k x_35 x_54 (r_50) (r_138) hUI_36) hb_1L hb_1k (by decide) rfl v_9_125 rfl ⟨rfl, rfl⟩ ⟨Nat.le_of_ble_eq_true rfl, Nat.le_of_ble_eq_true rfl⟩ (Nat.le_of_ble_eq_true rfl) ⟨Nat.le_of_ble_eq_true rfl, Nat.le_of_ble_eq_true rfl⟩ dX9_readPlate_59 rfl (st := []) (fun x_139 I_140 J_141 h_142 => ?_)
        obtain ⟨rfl, rfl, rx_139, fx_139⟩ := h_142
        have c_143 : fOnPlate (x_35) (x_54) (s_14) = x_139 := by have q := fx_139; simp only [ecqx_1, dcqx_1, hs_44] at q; exact q.symm
        refine g_if_le C (tgt := 71) dX9_readPlate_62 (by decide) (fun h_144 => ?_) (fun h_144 => ?_)
        · skip
          have r_145 := le_l (h_144) rx_139 rc_0
          refine g_aload_n C 3 dX9_readPlate_71 rfl rfl ?_
          refine g_iload_n C 0 dX9_readPlate_72 rfl rfl ?_
          refine g_callVI C K (c_X10_takeName W9 hLa0 hka0 x_54 (rg_w r_138 (by decide) (by decide)) hUI_36) hLa0 hka0 (by decide) rfl v_9_95 rfl ⟨rfl, rfl⟩ ⟨Nat.le_of_ble_eq_true rfl, Nat.le_of_ble_eq_true rfl⟩ (Nat.le_of_ble_eq_true rfl) ⟨Nat.le_of_ble_eq_true rfl, Nat.le_of_ble_eq_true rfl⟩ dX9_readPlate_73 rfl (st := []) (fun x_146 I_147 J_148 h_149 => ?_)
          obtain ⟨hUI_147, hFI_147, hGJ_148, rx_146, fx_146, ex_146⟩ := h_149
          have hF_150 := fq_tr hF_39 hFI_147 (by decide)
          have hG_151 := fq_tr hG_40 hGJ_148 (by decide)
          obtain ⟨s_153, hs_153⟩ : ∃ z, TPq I_147 J_148 a0 b_3 b_4 b_5 b_6 b_7 = z := ⟨_, rfl⟩
          have c_152 : fTakeName (x_54) (s_42) = (x_146, s_153) := by have q := fx_146; simp only [etqa0, hs_42, hs_153] at q; exact q.symm
          have hs_154 : TBq I_147 J_148 b_2 b_9 b_10 b_11 = s_12 := (bq_fq wbqx_0 hFI_147 hGJ_148 (by decide) (by decide)).trans hs_43
          have hs_155 : CPq I_147 J_148 b_1 b_13 = s_14 := (cq_fq wcqx_1 hFI_147 hGJ_148 (by decide) (by decide)).trans hs_44
          have hs_156 : XPq I_147 J_148 x = s_15 := (xq_fq wxqx hFI_147 hGJ_148 (by decide) (by decide)).trans hs_45
          have kt_157 : Kt_ L κ R I I_147 [rr_ R x 0] := (kt_fq W9 kt_46 hFI_147 (by decide))
          have r_158 : Rg (-1) 5 x_146 := rg_or ex_146 (rg_w r_138 (by decide) (by decide)) (by decide) (by decide)
          refine g_iconst C (v := (-1)) dX9_readPlate_76 (by decide) ?_
          refine g_icmp_ne C (tgt := 82) dX9_readPlate_77 (by decide) (fun h_159 => ?_) (fun h_159 => ?_)
          · skip
            have n_160 : ¬ x_146 = (-1) := h_159
            have r_161 := ne_lo (lo := 0) n_160 r_158 rc_m1 rfl (by decide)
            refine g_aload_n C 3 dX9_readPlate_82 rfl rfl ?_
            refine g_iconst C (v := 1) dX9_readPlate_83 (by decide) ?_
            refine g_bipush C (v := 40) dX9_readPlate_84 (by decide) ?_
            refine g_callVI C K (c_X10_takeNumber W9 hLa0 hka0 1 40 (rg_w rc_1 (by decide) (by decide)) (rg_w rc_40 (by decide) (by decide)) hUI_147) hLa0 hka0 (by decide) rfl v_9_91 rfl ⟨rfl, rfl⟩ ⟨Nat.le_of_ble_eq_true rfl, Nat.le_of_ble_eq_true rfl⟩ (Nat.le_of_ble_eq_true rfl) ⟨Nat.le_of_ble_eq_true rfl, Nat.le_of_ble_eq_true rfl⟩ dX9_readPlate_86 rfl (st := []) (fun x_162 I_163 J_164 h_165 => ?_)
            obtain ⟨hUI_163, hFI_163, hGJ_164, rx_162, fx_162⟩ := h_165
            have hF_166 := fq_tr hF_150 hFI_163 (by decide)
            have hG_167 := fq_tr hG_151 hGJ_164 (by decide)
            obtain ⟨s_169, hs_169⟩ : ∃ z, TPq I_163 J_164 a0 b_3 b_4 b_5 b_6 b_7 = z := ⟨_, rfl⟩
            have c_168 : fTakeNumber (1) (40) (s_153) = (x_162, s_169) := by have q := fx_162; simp only [etqa0, hs_153, hs_169] at q; exact q.symm
            have hs_170 : TBq I_163 J_164 b_2 b_9 b_10 b_11 = s_12 := (bq_fq wbqx_0 hFI_163 hGJ_164 (by decide) (by decide)).trans hs_154
            have hs_171 : CPq I_163 J_164 b_1 b_13 = s_14 := (cq_fq wcqx_1 hFI_163 hGJ_164 (by decide) (by decide)).trans hs_155
            have hs_172 : XPq I_163 J_164 x = s_15 := (xq_fq wxqx hFI_163 hGJ_164 (by decide) (by decide)).trans hs_156
            have kt_173 : Kt_ L κ R I I_163 [rr_ R x 0] := (kt_fq W9 kt_157 hFI_163 (by decide))
            refine g_istore C dX9_readPlate_89 (by decide) (lo2 := [(4, .int x_162), (3, .int x_54), (2, .int x_35), (0, .ref x), (1, .ref a0)]) rfl ?_
            refine g_iload C 0 dX9_readPlate_91 rfl ?_
            refine g_iconst C (v := (-1)) dX9_readPlate_93 (by decide) ?_
            refine g_icmp_ne C (tgt := 99) dX9_readPlate_94 (by decide) (fun h_174 => ?_) (fun h_174 => ?_)
            · skip
              have n_175 : ¬ x_162 = (-1) := h_174
              refine g_aload_n C 3 dX9_readPlate_99 rfl rfl ?_
              refine g_getR C K hLx hkx f_9_23 hb_1 dX9_readPlate_100 ?_
              refine g_iload_n C 2 dX9_readPlate_103 rfl rfl ?_
              refine g_iload_n C 1 dX9_readPlate_104 rfl rfl ?_
              refine g_iload C 0 dX9_readPlate_105 rfl ?_
              refine g_callVV C K (c_X1_addToPlate W9 hb_1L hb_1k x_35 x_54 x_162 (r_50) (r_138) hUI_163) hb_1L hb_1k (by decide) rfl v_9_128 rfl ⟨rfl, rfl⟩ ⟨Nat.le_of_ble_eq_true rfl, Nat.le_of_ble_eq_true rfl⟩ (Nat.le_of_ble_eq_true rfl) ⟨Nat.le_of_ble_eq_true rfl, Nat.le_of_ble_eq_true rfl⟩ dX9_readPlate_107 rfl (st := []) (fun I_177 J_178 h_179 => ?_)
              obtain ⟨hUI_177, hFI_177, hGJ_178, fx_176⟩ := h_179
              have hF_180 := fq_tr hF_166 hFI_177 (by decide)
              have hG_181 := fq_tr hG_167 hGJ_178 (by decide)
              obtain ⟨s_183, hs_183⟩ : ∃ z, CPq I_177 J_178 b_1 b_13 = z := ⟨_, rfl⟩
              have c_182 : fAddToPlate (x_35) (x_54) (x_162) (s_14) = s_183 := by have q := fx_176; simp only [ecqx_1, dcqx_1, hs_171, hs_183] at q; exact q.symm
              have hs_184 : TPq I_177 J_178 a0 b_3 b_4 b_5 b_6 b_7 = s_169 := (tq_fq wtqa0 hFI_177 hGJ_178 (by decide) (by decide)).trans hs_169
              have hs_185 : TBq I_177 J_178 b_2 b_9 b_10 b_11 = s_12 := (bq_fq wbqx_0 hFI_177 hGJ_178 (by decide) (by decide)).trans hs_170
              have hs_186 : XPq I_177 J_178 x = s_15 := (xq_fq wxqx hFI_177 hGJ_178 (by decide) (by decide)).trans hs_172
              have kt_187 : Kt_ L κ R I I_177 [rr_ R x 0] := (kt_fq W9 kt_173 hFI_177 (by decide))
              refine g_aload_n C 4 dX9_readPlate_110 rfl rfl ?_
              refine g_bipush C (v := 59) dX9_readPlate_111 (by decide) ?_
              refine g_callVI C K (c_X10_take W9 hLa0 hka0 59 (rg_w rc_59 (by decide) (by decide)) hUI_177) hLa0 hka0 (by decide) rfl v_9_110 rfl ⟨rfl, rfl⟩ ⟨Nat.le_of_ble_eq_true rfl, Nat.le_of_ble_eq_true rfl⟩ (Nat.le_of_ble_eq_true rfl) ⟨Nat.le_of_ble_eq_true rfl, Nat.le_of_ble_eq_true rfl⟩ dX9_readPlate_113 rfl (st := []) (fun x_188 I_189 J_190 h_191 => ?_)
              obtain ⟨hUI_189, hFI_189, hGJ_190, rx_188, fx_188⟩ := h_191
              have hF_192 := fq_tr hF_180 hFI_189 (by decide)
              have hG_193 := fq_tr hG_181 hGJ_190 (by decide)
              obtain ⟨s_195, hs_195⟩ : ∃ z, TPq I_189 J_190 a0 b_3 b_4 b_5 b_6 b_7 = z := ⟨_, rfl⟩
              have c_194 : fTake (59) (s_169) = (x_188, s_195) := by have q := fx_188; simp only [etqa0, hs_184, hs_195] at q; exact q.symm
              have hs_196 : TBq I_189 J_190 b_2 b_9 b_10 b_11 = s_12 := (bq_fq wbqx_0 hFI_189 hGJ_190 (by decide) (by decide)).trans hs_185
              have hs_197 : CPq I_189 J_190 b_1 b_13 = s_183 := (cq_fq wcqx_1 hFI_189 hGJ_190 (by decide) (by decide)).trans hs_183
              have hs_198 : XPq I_189 J_190 x = s_15 := (xq_fq wxqx hFI_189 hGJ_190 (by decide) (by decide)).trans hs_186
              have kt_199 : Kt_ L κ R I I_189 [rr_ R x 0] := (kt_fq W9 kt_187 hFI_189 (by decide))
              exact g_zret (ty := .boolean) (r := x_188) B K rfl (nar_z (rx_188)) ⟨hUI_189, hF_192, hG_193, rx_188, (by simp only [fReadPlate, fFailR, fTakeR, fPutPerson, fPutDish, fReadPlate3, etqa0, hs_195, hs_8, ebqx_0, dbqx_0, hs_196, hs_12, ecqx_1, dcqx_1, hs_197, hs_14, exqx, hs_198, hs_15, c_22, hy_28, f_29, c_34, c_41, h_48, hy_52, f_53, c_58, hx_59, f_60, (eq_true h_61), h_121, c_143, h_144, c_152, h_159, c_168, h_174, c_182, c_194, if_true, if_false, bqM_pnm, bqM_par, bqM_dnm, bqM_persons, bqM_dishes, bqM_law, bqM_dogs, TB_.w_pnm, TB_.w_par, TB_.w_dnm, TB_.w_persons, TB_.w_dishes, TB_.w_law, TB_.w_dogs, cqM_pcs, CP_.w_pcs, tqM_by_, tqM_wd, tqM_tk, tqM_pl, tqM_vl, tqM_len, tqM_n, tqM_at_, tqM_token, tqM_place, tqM_value, tqM_fault, tqM_fat, TP_.w_by_, TP_.w_wd, TP_.w_tk, TP_.w_pl, TP_.w_vl, TP_.w_len, TP_.w_n, TP_.w_at_, TP_.w_token, TP_.w_place, TP_.w_value, TP_.w_fault, TP_.w_fat, xqM_lt, xqM_dt, XP_.w_lt, XP_.w_dt]), kt_199⟩ dX9_readPlate_116
            · skip
              have r_200 := (⟨(eq_rg (h_174) rc_m1).1, (eq_rg (h_174) rc_m1).2⟩ : Rg (-1) (-1) x_162)
              refine g_iconst C (v := 0) dX9_readPlate_97 (by decide) ?_
              exact g_zret (ty := .boolean) (r := 0) B K rfl (rfl) ⟨hUI_163, hF_166, hG_167, rg_w rc_0 (by decide) (by decide), (by simp only [fReadPlate, fFailR, fTakeR, fPutPerson, fPutDish, fReadPlate3, etqa0, hs_169, hs_8, ebqx_0, dbqx_0, hs_170, hs_12, ecqx_1, dcqx_1, hs_171, hs_14, exqx, hs_172, hs_15, c_22, hy_28, f_29, c_34, c_41, h_48, hy_52, f_53, c_58, hx_59, f_60, (eq_true h_61), h_121, c_143, h_144, c_152, h_159, c_168, (eq_true h_174), if_true, if_false, bqM_pnm, bqM_par, bqM_dnm, bqM_persons, bqM_dishes, bqM_law, bqM_dogs, TB_.w_pnm, TB_.w_par, TB_.w_dnm, TB_.w_persons, TB_.w_dishes, TB_.w_law, TB_.w_dogs, cqM_pcs, CP_.w_pcs, tqM_by_, tqM_wd, tqM_tk, tqM_pl, tqM_vl, tqM_len, tqM_n, tqM_at_, tqM_token, tqM_place, tqM_value, tqM_fault, tqM_fat, TP_.w_by_, TP_.w_wd, TP_.w_tk, TP_.w_pl, TP_.w_vl, TP_.w_len, TP_.w_n, TP_.w_at_, TP_.w_token, TP_.w_place, TP_.w_value, TP_.w_fault, TP_.w_fat, xqM_lt, xqM_dt, XP_.w_lt, XP_.w_dt]), kt_173⟩ dX9_readPlate_98
          · skip
            have r_201 := (⟨(r_158).1, (eq_rg (h_159) rc_m1).2⟩ : Rg (-1) (-1) x_146)
            refine g_iconst C (v := 0) dX9_readPlate_80 (by decide) ?_
            exact g_zret (ty := .boolean) (r := 0) B K rfl (rfl) ⟨hUI_147, hF_150, hG_151, rg_w rc_0 (by decide) (by decide), (by simp only [fReadPlate, fFailR, fTakeR, fPutPerson, fPutDish, fReadPlate3, etqa0, hs_153, hs_8, ebqx_0, dbqx_0, hs_154, hs_12, ecqx_1, dcqx_1, hs_155, hs_14, exqx, hs_156, hs_15, c_22, hy_28, f_29, c_34, c_41, h_48, hy_52, f_53, c_58, hx_59, f_60, (eq_true h_61), h_121, c_143, h_144, c_152, (eq_true h_159), if_true, if_false, bqM_pnm, bqM_par, bqM_dnm, bqM_persons, bqM_dishes, bqM_law, bqM_dogs, TB_.w_pnm, TB_.w_par, TB_.w_dnm, TB_.w_persons, TB_.w_dishes, TB_.w_law, TB_.w_dogs, cqM_pcs, CP_.w_pcs, tqM_by_, tqM_wd, tqM_tk, tqM_pl, tqM_vl, tqM_len, tqM_n, tqM_at_, tqM_token, tqM_place, tqM_value, tqM_fault, tqM_fat, TP_.w_by_, TP_.w_wd, TP_.w_tk, TP_.w_pl, TP_.w_vl, TP_.w_len, TP_.w_n, TP_.w_at_, TP_.w_token, TP_.w_place, TP_.w_value, TP_.w_fault, TP_.w_fat, xqM_lt, xqM_dt, XP_.w_lt, XP_.w_dt]), kt_157⟩ dX9_readPlate_81
        · skip
          have r_202 := lt_r (lo := 1) (nle h_144) rc_0 rx_139 (by decide)
          refine g_aload_n C 3 dX9_readPlate_65 rfl rfl ?_
          refine g_iconst C (v := 3) dX9_readPlate_66 (by decide) ?_
          refine g_callVI C K (c_X10_fail W9 hLa0 hka0 3 (rg_w rc_3 (by decide) (by decide)) hUI_36) hLa0 hka0 (by decide) rfl v_9_67 rfl ⟨rfl, rfl⟩ ⟨Nat.le_of_ble_eq_true rfl, Nat.le_of_ble_eq_true rfl⟩ (Nat.le_of_ble_eq_true rfl) ⟨Nat.le_of_ble_eq_true rfl, Nat.le_of_ble_eq_true rfl⟩ dX9_readPlate_67 rfl (st := []) (fun x_203 I_204 J_205 h_206 => ?_)
          obtain ⟨hUI_204, hFI_204, hGJ_205, rx_203, fx_203⟩ := h_206
          have hF_207 := fq_tr hF_39 hFI_204 (by decide)
          have hG_208 := fq_tr hG_40 hGJ_205 (by decide)
          obtain ⟨s_210, hs_210⟩ : ∃ z, TPq I_204 J_205 a0 b_3 b_4 b_5 b_6 b_7 = z := ⟨_, rfl⟩
          have c_209 : fFail (3) (s_42) = (x_203, s_210) := by have q := fx_203; simp only [etqa0, hs_42, hs_210] at q; exact q.symm
          have hs_211 : TBq I_204 J_205 b_2 b_9 b_10 b_11 = s_12 := (bq_fq wbqx_0 hFI_204 hGJ_205 (by decide) (by decide)).trans hs_43
          have hs_212 : CPq I_204 J_205 b_1 b_13 = s_14 := (cq_fq wcqx_1 hFI_204 hGJ_205 (by decide) (by decide)).trans hs_44
          have hs_213 : XPq I_204 J_205 x = s_15 := (xq_fq wxqx hFI_204 hGJ_205 (by decide) (by decide)).trans hs_45
          have kt_214 : Kt_ L κ R I I_204 [rr_ R x 0] := (kt_fq W9 kt_46 hFI_204 (by decide))
          exact g_zret (ty := .boolean) (r := x_203) B K rfl (nar_z (rg_w rx_203 (by decide) (by decide))) ⟨hUI_204, hF_207, hG_208, rg_w rx_203 (by decide) (by decide), (by simp only [fReadPlate, fFailR, fTakeR, fPutPerson, fPutDish, fReadPlate3, etqa0, hs_210, hs_8, ebqx_0, dbqx_0, hs_211, hs_12, ecqx_1, dcqx_1, hs_212, hs_14, exqx, hs_213, hs_15, c_22, hy_28, f_29, c_34, c_41, h_48, hy_52, f_53, c_58, hx_59, f_60, (eq_true h_61), h_121, c_143, h_144, (nle h_144), c_209, if_true, if_false, bqM_pnm, bqM_par, bqM_dnm, bqM_persons, bqM_dishes, bqM_law, bqM_dogs, TB_.w_pnm, TB_.w_par, TB_.w_dnm, TB_.w_persons, TB_.w_dishes, TB_.w_law, TB_.w_dogs, cqM_pcs, CP_.w_pcs, tqM_by_, tqM_wd, tqM_tk, tqM_pl, tqM_vl, tqM_len, tqM_n, tqM_at_, tqM_token, tqM_place, tqM_value, tqM_fault, tqM_fat, TP_.w_by_, TP_.w_wd, TP_.w_tk, TP_.w_pl, TP_.w_vl, TP_.w_len, TP_.w_n, TP_.w_at_, TP_.w_token, TP_.w_place, TP_.w_value, TP_.w_fault, TP_.w_fat, xqM_lt, xqM_dt, XP_.w_lt, XP_.w_dt]), kt_214⟩ dX9_readPlate_70
  · skip
    have r_215 := (⟨(r_47).1, (eq_rg (h_48) rc_m1).2⟩ : Rg (-1) (-1) x_35)
    refine g_iconst C (v := 0) dX9_readPlate_25 (by decide) ?_
    exact g_zret (ty := .boolean) (r := 0) B K rfl (rfl) ⟨hUI_36, hF_39, hG_40, rg_w rc_0 (by decide) (by decide), (by simp only [fReadPlate, fFailR, fTakeR, fPutPerson, fPutDish, fReadPlate3, etqa0, hs_42, hs_8, ebqx_0, dbqx_0, hs_43, hs_12, ecqx_1, dcqx_1, hs_44, hs_14, exqx, hs_45, hs_15, c_22, hy_28, f_29, c_34, c_41, (eq_true h_48), if_true, if_false, bqM_pnm, bqM_par, bqM_dnm, bqM_persons, bqM_dishes, bqM_law, bqM_dogs, TB_.w_pnm, TB_.w_par, TB_.w_dnm, TB_.w_persons, TB_.w_dishes, TB_.w_law, TB_.w_dogs, cqM_pcs, CP_.w_pcs, tqM_by_, tqM_wd, tqM_tk, tqM_pl, tqM_vl, tqM_len, tqM_n, tqM_at_, tqM_token, tqM_place, tqM_value, tqM_fault, tqM_fat, TP_.w_by_, TP_.w_wd, TP_.w_tk, TP_.w_pl, TP_.w_vl, TP_.w_len, TP_.w_n, TP_.w_at_, TP_.w_token, TP_.w_place, TP_.w_value, TP_.w_fault, TP_.w_fat, xqM_lt, xqM_dt, XP_.w_lt, XP_.w_dt]), kt_46⟩ dX9_readPlate_26
set_option maxRecDepth 100000 in
set_option maxHeartbeats 8000000 in
theorem c_X9_readLine {l : Launch} {D : va_G} {cy : Nat → ClassId} {L : List Nat} {κ ln : Nat → Nat} {R : Nat → Nat → Option Nat} {I : Nat → Nat → Int32} {J : Nat → Nat → Int64} {ow : Nat → Nat × Nat} (W9 : ∀ a ∈ L, Shp L κ ln R ow a) {x : Nat} (hLx : x ∈ L) (hkx : κ x = 9) {a0 : Nat} (hLa0 : a0 ∈ L) (hka0 : κ a0 = 10) (hU : Iv L κ R ow I) : CtI l yX9_readLine cX9_readLine 2 (some .boolean) { frames := 3, cells := 0, slots := 0, locals := 69 } D cy L κ ln R I J [.ref x, .ref a0] (fun r I2 J2 => Iv L κ R ow I2 ∧ Fq L κ ow [805, 806, 807, 808, 902, 903, 1007, 1008, 1009, 1011, 1012, 16100, 16200, 16300, 58100, 58200, 58400] I I2 ∧ Fq L κ ow [1010, 58000, 58300] J J2 ∧ Rg 0 1 r ∧ ((r, TPf R I2 J2 a0, TBf R I2 J2 (rr_ R x 0), CPf R I2 J2 (rr_ R x 1), XPf R I2 J2 x) = fReadLine (TPf R I J a0) (TBf R I J (rr_ R x 0)) (CPf R I J (rr_ R x 1)) (XPf R I J x)) ∧ (Kt_ L κ R I I2 [rr_ R x 0]) ∧ (Kn_ L κ R J J2 [rr_ R x 0])) := by
  refine CtI.of (by decide +kernel) (Nat.le_of_ble_eq_true rfl) ?_
  intro p e s m below meth c B K
  have C := B.1
  have hF : Fq L κ ow [805, 806, 807, 808, 902, 903, 1007, 1008, 1009, 1011, 1012, 16100, 16200, 16300, 58100, 58200, 58400] I I := fq_rf
  have hG : Fq L κ ow [1010, 58000, 58300] J J := fq_rf
  obtain ⟨b_1, hb_1, hb_1L, hb_1k⟩ := shp_o (W9 x hLx) hkx 0 8 rfl (by decide)
  obtain ⟨b_2, hb_2, hb_2L, hb_2k, hb_2n, hb_2o⟩ := shp_a (W9 a0 hLa0) hka0 0 13 940 rfl (by decide)
  obtain ⟨b_3, hb_3, hb_3L, hb_3k, hb_3n, hb_3o⟩ := shp_a (W9 a0 hLa0) hka0 1 15 28 rfl (by decide)
  obtain ⟨b_4, hb_4, hb_4L, hb_4k, hb_4n, hb_4o⟩ := shp_a (W9 a0 hLa0) hka0 2 14 901 rfl (by decide)
  obtain ⟨b_5, hb_5, hb_5L, hb_5k, hb_5n, hb_5o⟩ := shp_a (W9 a0 hLa0) hka0 3 14 901 rfl (by decide)
  obtain ⟨b_6, hb_6, hb_6L, hb_6k, hb_6n, hb_6o⟩ := shp_a (W9 a0 hLa0) hka0 4 15 901 rfl (by decide)
  have etqa0 : ∀ I J, TPf R I J a0 = TPq I J a0 b_2 b_3 b_4 b_5 b_6 := fun I J => by simp only [TPf, rr_, Option.getD_some, hb_2, hb_3, hb_4, hb_5, hb_6]
  have wtqa0 : tqw_ L κ ow a0 b_2 b_3 b_4 b_5 b_6 := ⟨⟨hLa0, hb_2L, hb_3L, hb_4L, hb_5L, hb_6L⟩, ⟨(ro_o hka0 (by decide)), (ro_a hb_2k (by decide) hb_2o hka0 rfl), (ro_a hb_3k (by decide) hb_3o hka0 rfl), (ro_a hb_4k (by decide) hb_4o hka0 rfl), (ro_a hb_5k (by decide) hb_5o hka0 rfl), (ro_a hb_6k (by decide) hb_6o hka0 rfl)⟩⟩
  obtain ⟨s_7, hs_7⟩ : ∃ z, TPq I J a0 b_2 b_3 b_4 b_5 b_6 = z := ⟨_, rfl⟩
  obtain ⟨b_8, hb_8, hb_8L, hb_8k, hb_8n, hb_8o⟩ := shp_a (W9 b_1 hb_1L) hb_1k 0 15 7 rfl (by decide)
  obtain ⟨b_9, hb_9, hb_9L, hb_9k, hb_9n, hb_9o⟩ := shp_a (W9 b_1 hb_1L) hb_1k 2 14 7 rfl (by decide)
  obtain ⟨b_10, hb_10, hb_10L, hb_10k, hb_10n, hb_10o⟩ := shp_a (W9 b_1 hb_1L) hb_1k 3 15 6 rfl (by decide)
  have ebqx_0 : ∀ I J, TBf R I J (rr_ R x 0) = TBq I J b_1 b_8 b_9 b_10 := fun I J => by simp only [TBf, rr_, Option.getD_some, hb_8, hb_9, hb_10, hb_1]
  have dbqx_0 : ∀ I J, TBf R I J b_1 = TBq I J b_1 b_8 b_9 b_10 := fun I J => by simp only [TBf, rr_, Option.getD_some, hb_8, hb_9, hb_10, hb_1]
  have wbqx_0 : bqw_ L κ ow b_1 b_8 b_9 b_10 := ⟨⟨hb_1L, hb_8L, hb_9L, hb_10L⟩, ⟨(ro_o hb_1k (by decide)), (ro_a hb_8k (by decide) hb_8o hb_1k rfl), (ro_a hb_9k (by decide) hb_9o hb_1k rfl), (ro_a hb_10k (by decide) hb_10o hb_1k rfl)⟩⟩
  obtain ⟨s_11, hs_11⟩ : ∃ z, TBq I J b_1 b_8 b_9 b_10 = z := ⟨_, rfl⟩
  obtain ⟨b_12, hb_12, hb_12L, hb_12k⟩ := shp_o (W9 x hLx) hkx 1 1 rfl (by decide)
  obtain ⟨b_13, hb_13, hb_13L, hb_13k, hb_13n, hb_13o⟩ := shp_a (W9 b_12 hb_12L) hb_12k 2 14 42 rfl (by decide)
  have ecqx_1 : ∀ I J, CPf R I J (rr_ R x 1) = CPq I J b_12 b_13 := fun I J => by simp only [CPf, rr_, Option.getD_some, hb_13, hb_12]
  have dcqx_1 : ∀ I J, CPf R I J b_12 = CPq I J b_12 b_13 := fun I J => by simp only [CPf, rr_, Option.getD_some, hb_13, hb_12]
  have wcqx_1 : cqw_ L κ ow b_12 b_13 := ⟨⟨hb_12L, hb_13L⟩, ⟨(ro_o hb_12k (by decide)), (ro_a hb_13k (by decide) hb_13o hb_12k rfl)⟩⟩
  obtain ⟨s_14, hs_14⟩ : ∃ z, CPq I J b_12 b_13 = z := ⟨_, rfl⟩
  have exqx : ∀ I J, XPf R I J x = XPq I J x := fun I J => by simp only [XPf, rr_, Option.getD_some]
  have wxqx : xqw_ L κ ow x := ⟨hLx, (ro_o hkx (by decide))⟩
  obtain ⟨s_15, hs_15⟩ : ∃ z, XPq I J x = z := ⟨_, rfl⟩
  refine g_lo (is := [0, 1]) (lo2 := [(0, .ref x), (1, .ref a0)]) rfl ?_
  refine g_aload_n C 1 dX9_readLine_0 rfl rfl ?_
  obtain ⟨x_16, hx_16, rx_16⟩ := ex_get (I := I) (a := a0) (j := 8) (lo := (-2147483648)) (hi := 2147483647) hU.1 hLa0 (ro_o hka0 (by decide)) rfl
  have f_17 : s_7.token = x_16 := (congrArg TP_.token hs_7).symm.trans hx_16
  refine g_getI C K hLa0 hka0 f_9_44 (v := x_16) hx_16 dX9_readLine_1 ?_
  by_cases c_18 : x_16.toInt = 0
  · skip
    have r_19 := rg_of (a := 0) (b := 0) 0 c_18 (by decide) (by decide)
    refine g_tableIn C (tgt := 40) dX9_readLine_4 (by omega) (by omega) (off := 36) (by rw [c_18]; rfl) (by decide) ?_
    refine g_aload_n C 0 dX9_readLine_40 rfl rfl ?_
    refine g_aload_n C 1 dX9_readLine_41 rfl rfl ?_
    refine g_callVI C K (c_X9_readPerson W9 hLx hkx hLa0 hka0  hU) hLx hkx (by decide) rfl v_9_52 rfl ⟨rfl, rfl⟩ ⟨Nat.le_of_ble_eq_true rfl, Nat.le_of_ble_eq_true rfl⟩ (Nat.le_of_ble_eq_true rfl) ⟨Nat.le_of_ble_eq_true rfl, Nat.le_of_ble_eq_true rfl⟩ dX9_readLine_42 rfl (st := []) (fun x_20 I_21 J_22 h_23 => ?_)
    obtain ⟨hUI_21, hFI_21, hGJ_22, rx_20, fx_20, ex_20⟩ := h_23
    have hF_24 := fq_tr hF hFI_21 (by decide)
    have hG_25 := fq_tr hG hGJ_22 (by decide)
    obtain ⟨s_27, hs_27⟩ : ∃ z, TPq I_21 J_22 a0 b_2 b_3 b_4 b_5 b_6 = z := ⟨_, rfl⟩
    obtain ⟨s_28, hs_28⟩ : ∃ z, TBq I_21 J_22 b_1 b_8 b_9 b_10 = z := ⟨_, rfl⟩
    obtain ⟨s_29, hs_29⟩ : ∃ z, CPq I_21 J_22 b_12 b_13 = z := ⟨_, rfl⟩
    obtain ⟨s_30, hs_30⟩ : ∃ z, XPq I_21 J_22 x = z := ⟨_, rfl⟩
    have c_26 : fReadPerson (s_7) (s_11) (s_14) (s_15) = (x_20, s_27, s_28, s_29, s_30) := by have q := fx_20; simp only [etqa0, ebqx_0, dbqx_0, ecqx_1, dcqx_1, exqx, hs_7, hs_11, hs_14, hs_15, hs_27, hs_28, hs_29, hs_30] at q; exact q.symm
    have kt_31 : Kt_ L κ R I I_21 [rr_ R x 0] := (kt_t kt_rf ex_20.1 (by simp only [rr_s hb_1]; simp only [List.mem_cons, List.not_mem_nil, or_false, forall_eq, true_or, or_true]))
    have kn_32 : Kn_ L κ R J J_22 [rr_ R x 0] := (kn_t kn_rf ex_20.2 (by simp only [rr_s hb_1]; simp only [List.mem_cons, List.not_mem_nil, or_false, forall_eq, true_or, or_true]))
    exact g_zret (ty := .boolean) (r := x_20) B K rfl (nar_z (rx_20)) ⟨hUI_21, hF_24, hG_25, rx_20, (by simp only [fReadLine, fFailR, fTakeR, fPutPerson, fPutDish, fReadPlate3, etqa0, hs_27, hs_7, ebqx_0, dbqx_0, hs_28, hs_11, ecqx_1, dcqx_1, hs_29, hs_14, exqx, hs_30, hs_15, hx_16, f_17, (eq_true c_18), c_26, if_true, if_false, bqM_pnm, bqM_par, bqM_dnm, bqM_persons, bqM_dishes, bqM_law, bqM_dogs, TB_.w_pnm, TB_.w_par, TB_.w_dnm, TB_.w_persons, TB_.w_dishes, TB_.w_law, TB_.w_dogs, cqM_pcs, CP_.w_pcs, tqM_by_, tqM_wd, tqM_tk, tqM_pl, tqM_vl, tqM_len, tqM_n, tqM_at_, tqM_token, tqM_place, tqM_value, tqM_fault, tqM_fat, TP_.w_by_, TP_.w_wd, TP_.w_tk, TP_.w_pl, TP_.w_vl, TP_.w_len, TP_.w_n, TP_.w_at_, TP_.w_token, TP_.w_place, TP_.w_value, TP_.w_fault, TP_.w_fat, xqM_lt, xqM_dt, XP_.w_lt, XP_.w_dt]), kt_31, kn_32⟩ dX9_readLine_45
  by_cases c_33 : x_16.toInt = 1
  · skip
    have r_34 := rg_of (a := 1) (b := 1) 1 c_33 (by decide) (by decide)
    refine g_tableIn C (tgt := 46) dX9_readLine_4 (by omega) (by omega) (off := 42) (by rw [c_33]; rfl) (by decide) ?_
    refine g_aload_n C 0 dX9_readLine_46 rfl rfl ?_
    refine g_aload_n C 1 dX9_readLine_47 rfl rfl ?_
    refine g_callVI C K (c_X9_readDish W9 hLx hkx hLa0 hka0  hU) hLx hkx (by decide) rfl v_9_55 rfl ⟨rfl, rfl⟩ ⟨Nat.le_of_ble_eq_true rfl, Nat.le_of_ble_eq_true rfl⟩ (Nat.le_of_ble_eq_true rfl) ⟨Nat.le_of_ble_eq_true rfl, Nat.le_of_ble_eq_true rfl⟩ dX9_readLine_48 rfl (st := []) (fun x_35 I_36 J_37 h_38 => ?_)
    obtain ⟨hUI_36, hFI_36, hGJ_37, rx_35, fx_35, ex_35⟩ := h_38
    have hF_39 := fq_tr hF hFI_36 (by decide)
    have hG_40 := fq_tr hG hGJ_37 (by decide)
    obtain ⟨s_42, hs_42⟩ : ∃ z, TPq I_36 J_37 a0 b_2 b_3 b_4 b_5 b_6 = z := ⟨_, rfl⟩
    obtain ⟨s_43, hs_43⟩ : ∃ z, TBq I_36 J_37 b_1 b_8 b_9 b_10 = z := ⟨_, rfl⟩
    obtain ⟨s_44, hs_44⟩ : ∃ z, CPq I_36 J_37 b_12 b_13 = z := ⟨_, rfl⟩
    obtain ⟨s_45, hs_45⟩ : ∃ z, XPq I_36 J_37 x = z := ⟨_, rfl⟩
    have c_41 : fReadDish (s_7) (s_11) (s_14) (s_15) = (x_35, s_42, s_43, s_44, s_45) := by have q := fx_35; simp only [etqa0, ebqx_0, dbqx_0, ecqx_1, dcqx_1, exqx, hs_7, hs_11, hs_14, hs_15, hs_42, hs_43, hs_44, hs_45] at q; exact q.symm
    have kt_46 : Kt_ L κ R I I_36 [rr_ R x 0] := (kt_t kt_rf ex_35.1 (by simp only [rr_s hb_1]; simp only [List.mem_cons, List.not_mem_nil, or_false, forall_eq, true_or, or_true]))
    have kn_47 : Kn_ L κ R J J_37 [rr_ R x 0] := (kn_t kn_rf ex_35.2 (by simp only [rr_s hb_1]; simp only [List.mem_cons, List.not_mem_nil, or_false, forall_eq, true_or, or_true]))
    exact g_zret (ty := .boolean) (r := x_35) B K rfl (nar_z (rx_35)) ⟨hUI_36, hF_39, hG_40, rx_35, (by simp only [fReadLine, fFailR, fTakeR, fPutPerson, fPutDish, fReadPlate3, etqa0, hs_42, hs_7, ebqx_0, dbqx_0, hs_43, hs_11, ecqx_1, dcqx_1, hs_44, hs_14, exqx, hs_45, hs_15, hx_16, f_17, c_18, (eq_true c_33), c_41, if_true, if_false, bqM_pnm, bqM_par, bqM_dnm, bqM_persons, bqM_dishes, bqM_law, bqM_dogs, TB_.w_pnm, TB_.w_par, TB_.w_dnm, TB_.w_persons, TB_.w_dishes, TB_.w_law, TB_.w_dogs, cqM_pcs, CP_.w_pcs, tqM_by_, tqM_wd, tqM_tk, tqM_pl, tqM_vl, tqM_len, tqM_n, tqM_at_, tqM_token, tqM_place, tqM_value, tqM_fault, tqM_fat, TP_.w_by_, TP_.w_wd, TP_.w_tk, TP_.w_pl, TP_.w_vl, TP_.w_len, TP_.w_n, TP_.w_at_, TP_.w_token, TP_.w_place, TP_.w_value, TP_.w_fault, TP_.w_fat, xqM_lt, xqM_dt, XP_.w_lt, XP_.w_dt]), kt_46, kn_47⟩ dX9_readLine_51
  by_cases c_48 : x_16.toInt = 2
  · skip
    have r_49 := rg_of (a := 2) (b := 2) 2 c_48 (by decide) (by decide)
    refine g_tableIn C (tgt := 52) dX9_readLine_4 (by omega) (by omega) (off := 48) (by rw [c_48]; rfl) (by decide) ?_
    refine g_aload_n C 0 dX9_readLine_52 rfl rfl ?_
    refine g_aload_n C 1 dX9_readLine_53 rfl rfl ?_
    refine g_callVI C K (c_X9_readPlate W9 hLx hkx hLa0 hka0  hU) hLx hkx (by decide) rfl v_9_58 rfl ⟨rfl, rfl⟩ ⟨Nat.le_of_ble_eq_true rfl, Nat.le_of_ble_eq_true rfl⟩ (Nat.le_of_ble_eq_true rfl) ⟨Nat.le_of_ble_eq_true rfl, Nat.le_of_ble_eq_true rfl⟩ dX9_readLine_54 rfl (st := []) (fun x_50 I_51 J_52 h_53 => ?_)
    obtain ⟨hUI_51, hFI_51, hGJ_52, rx_50, fx_50, ex_50⟩ := h_53
    have hF_54 := fq_tr hF hFI_51 (by decide)
    have hG_55 := fq_tr hG hGJ_52 (by decide)
    obtain ⟨s_57, hs_57⟩ : ∃ z, TPq I_51 J_52 a0 b_2 b_3 b_4 b_5 b_6 = z := ⟨_, rfl⟩
    obtain ⟨s_58, hs_58⟩ : ∃ z, TBq I_51 J_52 b_1 b_8 b_9 b_10 = z := ⟨_, rfl⟩
    obtain ⟨s_59, hs_59⟩ : ∃ z, CPq I_51 J_52 b_12 b_13 = z := ⟨_, rfl⟩
    obtain ⟨s_60, hs_60⟩ : ∃ z, XPq I_51 J_52 x = z := ⟨_, rfl⟩
    have c_56 : fReadPlate (s_7) (s_11) (s_14) (s_15) = (x_50, s_57, s_58, s_59, s_60) := by have q := fx_50; simp only [etqa0, ebqx_0, dbqx_0, ecqx_1, dcqx_1, exqx, hs_7, hs_11, hs_14, hs_15, hs_57, hs_58, hs_59, hs_60] at q; exact q.symm
    have kt_61 : Kt_ L κ R I I_51 [rr_ R x 0] := (kt_t kt_rf ex_50 (by simp only [rr_s hb_1]; simp only [List.mem_cons, List.not_mem_nil, or_false, forall_eq, true_or, or_true]))
    have kn_62 : Kn_ L κ R J J_52 [rr_ R x 0] := (kn_fq W9 kn_rf hGJ_52 (by decide))
    exact g_zret (ty := .boolean) (r := x_50) B K rfl (nar_z (rx_50)) ⟨hUI_51, hF_54, hG_55, rx_50, (by simp only [fReadLine, fFailR, fTakeR, fPutPerson, fPutDish, fReadPlate3, etqa0, hs_57, hs_7, ebqx_0, dbqx_0, hs_58, hs_11, ecqx_1, dcqx_1, hs_59, hs_14, exqx, hs_60, hs_15, hx_16, f_17, c_18, c_33, (eq_true c_48), c_56, if_true, if_false, bqM_pnm, bqM_par, bqM_dnm, bqM_persons, bqM_dishes, bqM_law, bqM_dogs, TB_.w_pnm, TB_.w_par, TB_.w_dnm, TB_.w_persons, TB_.w_dishes, TB_.w_law, TB_.w_dogs, cqM_pcs, CP_.w_pcs, tqM_by_, tqM_wd, tqM_tk, tqM_pl, tqM_vl, tqM_len, tqM_n, tqM_at_, tqM_token, tqM_place, tqM_value, tqM_fault, tqM_fat, TP_.w_by_, TP_.w_wd, TP_.w_tk, TP_.w_pl, TP_.w_vl, TP_.w_len, TP_.w_n, TP_.w_at_, TP_.w_token, TP_.w_place, TP_.w_value, TP_.w_fault, TP_.w_fat, xqM_lt, xqM_dt, XP_.w_lt, XP_.w_dt]), kt_61, kn_62⟩ dX9_readLine_57
  by_cases c_63 : x_16.toInt = 3
  · skip
    have r_64 := rg_of (a := 3) (b := 3) 3 c_63 (by decide) (by decide)
    refine g_tableIn C (tgt := 58) dX9_readLine_4 (by omega) (by omega) (off := 54) (by rw [c_63]; rfl) (by decide) ?_
    refine g_aload_n C 0 dX9_readLine_58 rfl rfl ?_
    refine g_aload_n C 1 dX9_readLine_59 rfl rfl ?_
    refine g_callVI C K (c_X9_readLaw W9 hLx hkx hLa0 hka0  hU) hLx hkx (by decide) rfl v_9_61 rfl ⟨rfl, rfl⟩ ⟨Nat.le_of_ble_eq_true rfl, Nat.le_of_ble_eq_true rfl⟩ (Nat.le_of_ble_eq_true rfl) ⟨Nat.le_of_ble_eq_true rfl, Nat.le_of_ble_eq_true rfl⟩ dX9_readLine_60 rfl (st := []) (fun x_65 I_66 J_67 h_68 => ?_)
    obtain ⟨hUI_66, hFI_66, hGJ_67, rx_65, fx_65, ex_65⟩ := h_68
    have hF_69 := fq_tr hF hFI_66 (by decide)
    have hG_70 := fq_tr hG hGJ_67 (by decide)
    obtain ⟨s_72, hs_72⟩ : ∃ z, TPq I_66 J_67 a0 b_2 b_3 b_4 b_5 b_6 = z := ⟨_, rfl⟩
    obtain ⟨s_73, hs_73⟩ : ∃ z, TBq I_66 J_67 b_1 b_8 b_9 b_10 = z := ⟨_, rfl⟩
    obtain ⟨s_74, hs_74⟩ : ∃ z, CPq I_66 J_67 b_12 b_13 = z := ⟨_, rfl⟩
    obtain ⟨s_75, hs_75⟩ : ∃ z, XPq I_66 J_67 x = z := ⟨_, rfl⟩
    have c_71 : fReadLaw (s_7) (s_11) (s_14) (s_15) = (x_65, s_72, s_73, s_74, s_75) := by have q := fx_65; simp only [etqa0, ebqx_0, dbqx_0, ecqx_1, dcqx_1, exqx, hs_7, hs_11, hs_14, hs_15, hs_72, hs_73, hs_74, hs_75] at q; exact q.symm
    have kt_76 : Kt_ L κ R I I_66 [rr_ R x 0] := (kt_t kt_rf ex_65 (by simp only [rr_s hb_1]; simp only [List.mem_cons, List.not_mem_nil, or_false, forall_eq, true_or, or_true]))
    have kn_77 : Kn_ L κ R J J_67 [rr_ R x 0] := (kn_fq W9 kn_rf hGJ_67 (by decide))
    exact g_zret (ty := .boolean) (r := x_65) B K rfl (nar_z (rx_65)) ⟨hUI_66, hF_69, hG_70, rx_65, (by simp only [fReadLine, fFailR, fTakeR, fPutPerson, fPutDish, fReadPlate3, etqa0, hs_72, hs_7, ebqx_0, dbqx_0, hs_73, hs_11, ecqx_1, dcqx_1, hs_74, hs_14, exqx, hs_75, hs_15, hx_16, f_17, c_18, c_33, c_48, (eq_true c_63), c_71, if_true, if_false, bqM_pnm, bqM_par, bqM_dnm, bqM_persons, bqM_dishes, bqM_law, bqM_dogs, TB_.w_pnm, TB_.w_par, TB_.w_dnm, TB_.w_persons, TB_.w_dishes, TB_.w_law, TB_.w_dogs, cqM_pcs, CP_.w_pcs, tqM_by_, tqM_wd, tqM_tk, tqM_pl, tqM_vl, tqM_len, tqM_n, tqM_at_, tqM_token, tqM_place, tqM_value, tqM_fault, tqM_fat, TP_.w_by_, TP_.w_wd, TP_.w_tk, TP_.w_pl, TP_.w_vl, TP_.w_len, TP_.w_n, TP_.w_at_, TP_.w_token, TP_.w_place, TP_.w_value, TP_.w_fault, TP_.w_fat, xqM_lt, xqM_dt, XP_.w_lt, XP_.w_dt]), kt_76, kn_77⟩ dX9_readLine_63
  by_cases c_78 : x_16.toInt = 4
  · skip
    have r_79 := rg_of (a := 4) (b := 4) 4 c_78 (by decide) (by decide)
    refine g_tableIn C (tgt := 64) dX9_readLine_4 (by omega) (by omega) (off := 60) (by rw [c_78]; rfl) (by decide) ?_
    refine g_aload_n C 0 dX9_readLine_64 rfl rfl ?_
    refine g_aload_n C 1 dX9_readLine_65 rfl rfl ?_
    refine g_callVI C K (c_X9_readDogs W9 hLx hkx hLa0 hka0  hU) hLx hkx (by decide) rfl v_9_64 rfl ⟨rfl, rfl⟩ ⟨Nat.le_of_ble_eq_true rfl, Nat.le_of_ble_eq_true rfl⟩ (Nat.le_of_ble_eq_true rfl) ⟨Nat.le_of_ble_eq_true rfl, Nat.le_of_ble_eq_true rfl⟩ dX9_readLine_66 rfl (st := []) (fun x_80 I_81 J_82 h_83 => ?_)
    obtain ⟨hUI_81, hFI_81, hGJ_82, rx_80, fx_80, ex_80⟩ := h_83
    have hF_84 := fq_tr hF hFI_81 (by decide)
    have hG_85 := fq_tr hG hGJ_82 (by decide)
    obtain ⟨s_87, hs_87⟩ : ∃ z, TPq I_81 J_82 a0 b_2 b_3 b_4 b_5 b_6 = z := ⟨_, rfl⟩
    obtain ⟨s_88, hs_88⟩ : ∃ z, TBq I_81 J_82 b_1 b_8 b_9 b_10 = z := ⟨_, rfl⟩
    obtain ⟨s_89, hs_89⟩ : ∃ z, CPq I_81 J_82 b_12 b_13 = z := ⟨_, rfl⟩
    obtain ⟨s_90, hs_90⟩ : ∃ z, XPq I_81 J_82 x = z := ⟨_, rfl⟩
    have c_86 : fReadDogs (s_7) (s_11) (s_14) (s_15) = (x_80, s_87, s_88, s_89, s_90) := by have q := fx_80; simp only [etqa0, ebqx_0, dbqx_0, ecqx_1, dcqx_1, exqx, hs_7, hs_11, hs_14, hs_15, hs_87, hs_88, hs_89, hs_90] at q; exact q.symm
    have kt_91 : Kt_ L κ R I I_81 [rr_ R x 0] := (kt_t kt_rf ex_80 (by simp only [rr_s hb_1]; simp only [List.mem_cons, List.not_mem_nil, or_false, forall_eq, true_or, or_true]))
    have kn_92 : Kn_ L κ R J J_82 [rr_ R x 0] := (kn_fq W9 kn_rf hGJ_82 (by decide))
    exact g_zret (ty := .boolean) (r := x_80) B K rfl (nar_z (rx_80)) ⟨hUI_81, hF_84, hG_85, rx_80, (by simp only [fReadLine, fFailR, fTakeR, fPutPerson, fPutDish, fReadPlate3, etqa0, hs_87, hs_7, ebqx_0, dbqx_0, hs_88, hs_11, ecqx_1, dcqx_1, hs_89, hs_14, exqx, hs_90, hs_15, hx_16, f_17, c_18, c_33, c_48, c_63, (eq_true c_78), c_86, if_true, if_false, bqM_pnm, bqM_par, bqM_dnm, bqM_persons, bqM_dishes, bqM_law, bqM_dogs, TB_.w_pnm, TB_.w_par, TB_.w_dnm, TB_.w_persons, TB_.w_dishes, TB_.w_law, TB_.w_dogs, cqM_pcs, CP_.w_pcs, tqM_by_, tqM_wd, tqM_tk, tqM_pl, tqM_vl, tqM_len, tqM_n, tqM_at_, tqM_token, tqM_place, tqM_value, tqM_fault, tqM_fat, TP_.w_by_, TP_.w_wd, TP_.w_tk, TP_.w_pl, TP_.w_vl, TP_.w_len, TP_.w_n, TP_.w_at_, TP_.w_token, TP_.w_place, TP_.w_value, TP_.w_fault, TP_.w_fat, xqM_lt, xqM_dt, XP_.w_lt, XP_.w_dt]), kt_91, kn_92⟩ dX9_readLine_69
  obtain ⟨q_931, q_932⟩ := rx_16
  refine g_tableOut C (tgt := 70) dX9_readLine_4 (by omega) (by decide) ?_
  refine g_aload_n C 1 dX9_readLine_70 rfl rfl ?_
  refine g_iconst C (v := 1) dX9_readLine_71 (by decide) ?_
  refine g_callVI C K (c_X10_fail W9 hLa0 hka0 1 (rg_w rc_1 (by decide) (by decide)) hU) hLa0 hka0 (by decide) rfl v_9_67 rfl ⟨rfl, rfl⟩ ⟨Nat.le_of_ble_eq_true rfl, Nat.le_of_ble_eq_true rfl⟩ (Nat.le_of_ble_eq_true rfl) ⟨Nat.le_of_ble_eq_true rfl, Nat.le_of_ble_eq_true rfl⟩ dX9_readLine_72 rfl (st := []) (fun x_94 I_95 J_96 h_97 => ?_)
  obtain ⟨hUI_95, hFI_95, hGJ_96, rx_94, fx_94⟩ := h_97
  have hF_98 := fq_tr hF hFI_95 (by decide)
  have hG_99 := fq_tr hG hGJ_96 (by decide)
  obtain ⟨s_101, hs_101⟩ : ∃ z, TPq I_95 J_96 a0 b_2 b_3 b_4 b_5 b_6 = z := ⟨_, rfl⟩
  have c_100 : fFail (1) (s_7) = (x_94, s_101) := by have q := fx_94; simp only [etqa0, hs_7, hs_101] at q; exact q.symm
  have hs_102 : TBq I_95 J_96 b_1 b_8 b_9 b_10 = s_11 := (bq_fq wbqx_0 hFI_95 hGJ_96 (by decide) (by decide)).trans hs_11
  have hs_103 : CPq I_95 J_96 b_12 b_13 = s_14 := (cq_fq wcqx_1 hFI_95 hGJ_96 (by decide) (by decide)).trans hs_14
  have hs_104 : XPq I_95 J_96 x = s_15 := (xq_fq wxqx hFI_95 hGJ_96 (by decide) (by decide)).trans hs_15
  have kt_105 : Kt_ L κ R I I_95 [rr_ R x 0] := (kt_fq W9 kt_rf hFI_95 (by decide))
  have kn_106 : Kn_ L κ R J J_96 [rr_ R x 0] := (kn_fq W9 kn_rf hGJ_96 (by decide))
  exact g_zret (ty := .boolean) (r := x_94) B K rfl (nar_z (rg_w rx_94 (by decide) (by decide))) ⟨hUI_95, hF_98, hG_99, rg_w rx_94 (by decide) (by decide), (by simp only [fReadLine, fFailR, fTakeR, fPutPerson, fPutDish, fReadPlate3, etqa0, hs_101, hs_7, ebqx_0, dbqx_0, hs_102, hs_11, ecqx_1, dcqx_1, hs_103, hs_14, exqx, hs_104, hs_15, hx_16, f_17, c_18, c_33, c_48, c_63, c_78, c_100, if_true, if_false, bqM_pnm, bqM_par, bqM_dnm, bqM_persons, bqM_dishes, bqM_law, bqM_dogs, TB_.w_pnm, TB_.w_par, TB_.w_dnm, TB_.w_persons, TB_.w_dishes, TB_.w_law, TB_.w_dogs, cqM_pcs, CP_.w_pcs, tqM_by_, tqM_wd, tqM_tk, tqM_pl, tqM_vl, tqM_len, tqM_n, tqM_at_, tqM_token, tqM_place, tqM_value, tqM_fault, tqM_fat, TP_.w_by_, TP_.w_wd, TP_.w_tk, TP_.w_pl, TP_.w_vl, TP_.w_len, TP_.w_n, TP_.w_at_, TP_.w_token, TP_.w_place, TP_.w_value, TP_.w_fault, TP_.w_fat, xqM_lt, xqM_dt, XP_.w_lt, XP_.w_dt]), kt_105, kn_106⟩ dX9_readLine_75
set_option maxRecDepth 100000 in
set_option maxHeartbeats 8000000 in
theorem c_X9_readFrom {l : Launch} {D : va_G} {cy : Nat → ClassId} {L : List Nat} {κ ln : Nat → Nat} {R : Nat → Nat → Option Nat} {I : Nat → Nat → Int32} {J : Nat → Nat → Int64} {ow : Nat → Nat × Nat} (W9 : ∀ a ∈ L, Shp L κ ln R ow a) {x : Nat} (hLx : x ∈ L) (hkx : κ x = 9) {a0 : Nat} (hLa0 : a0 ∈ L) (hka0 : κ a0 = 10) (hU : Iv L κ R ow I) : CtI l yX9_readFrom cX9_readFrom 3 (some .int) { frames := 4, cells := 0, slots := 0, locals := 90 } D cy L κ ln R I J [.ref x, .ref a0] (fun r I2 J2 => Iv L κ R ow I2 ∧ Fq L κ ow [107, 108, 109, 110, 111, 112, 805, 806, 807, 808, 902, 903, 1006, 1007, 1008, 1009, 1011, 1012, 16100, 16200, 16300, 16400, 16500, 16600, 58100, 58200, 58400, 70200, 70300] I I2 ∧ Fq L κ ow [1010, 58000, 58300, 70400] J J2 ∧ Rg 0 900 r ∧ ((r, TPf R I2 J2 a0, TBf R I2 J2 (rr_ R x 0), CPf R I2 J2 (rr_ R x 1), XPf R I2 J2 x) = fReadFrom (TPf R I J a0) (TBf R I J (rr_ R x 0)) (CPf R I J (rr_ R x 1)) (XPf R I J x)) ∧ (Kt_ L κ R I I2 [rr_ R x 0]) ∧ (Kn_ L κ R J J2 [rr_ R x 0])) := by
  refine CtI.of (by decide +kernel) (Nat.le_of_ble_eq_true rfl) ?_
  intro p e s m below meth c B K
  have C := B.1
  have hF : Fq L κ ow [107, 108, 109, 110, 111, 112, 805, 806, 807, 808, 902, 903, 1006, 1007, 1008, 1009, 1011, 1012, 16100, 16200, 16300, 16400, 16500, 16600, 58100, 58200, 58400, 70200, 70300] I I := fq_rf
  have hG : Fq L κ ow [1010, 58000, 58300, 70400] J J := fq_rf
  obtain ⟨b_1, hb_1, hb_1L, hb_1k⟩ := shp_o (W9 x hLx) hkx 1 1 rfl (by decide)
  obtain ⟨b_2, hb_2, hb_2L, hb_2k⟩ := shp_o (W9 x hLx) hkx 0 8 rfl (by decide)
  obtain ⟨b_3, hb_3, hb_3L, hb_3k, hb_3n, hb_3o⟩ := shp_a (W9 a0 hLa0) hka0 0 13 940 rfl (by decide)
  obtain ⟨b_4, hb_4, hb_4L, hb_4k, hb_4n, hb_4o⟩ := shp_a (W9 a0 hLa0) hka0 1 15 28 rfl (by decide)
  obtain ⟨b_5, hb_5, hb_5L, hb_5k, hb_5n, hb_5o⟩ := shp_a (W9 a0 hLa0) hka0 2 14 901 rfl (by decide)
  obtain ⟨b_6, hb_6, hb_6L, hb_6k, hb_6n, hb_6o⟩ := shp_a (W9 a0 hLa0) hka0 3 14 901 rfl (by decide)
  obtain ⟨b_7, hb_7, hb_7L, hb_7k, hb_7n, hb_7o⟩ := shp_a (W9 a0 hLa0) hka0 4 15 901 rfl (by decide)
  have etqa0 : ∀ I J, TPf R I J a0 = TPq I J a0 b_3 b_4 b_5 b_6 b_7 := fun I J => by simp only [TPf, rr_, Option.getD_some, hb_3, hb_4, hb_5, hb_6, hb_7]
  have wtqa0 : tqw_ L κ ow a0 b_3 b_4 b_5 b_6 b_7 := ⟨⟨hLa0, hb_3L, hb_4L, hb_5L, hb_6L, hb_7L⟩, ⟨(ro_o hka0 (by decide)), (ro_a hb_3k (by decide) hb_3o hka0 rfl), (ro_a hb_4k (by decide) hb_4o hka0 rfl), (ro_a hb_5k (by decide) hb_5o hka0 rfl), (ro_a hb_6k (by decide) hb_6o hka0 rfl), (ro_a hb_7k (by decide) hb_7o hka0 rfl)⟩⟩
  obtain ⟨s_8, hs_8⟩ : ∃ z, TPq I J a0 b_3 b_4 b_5 b_6 b_7 = z := ⟨_, rfl⟩
  obtain ⟨b_9, hb_9, hb_9L, hb_9k, hb_9n, hb_9o⟩ := shp_a (W9 b_2 hb_2L) hb_2k 0 15 7 rfl (by decide)
  obtain ⟨b_10, hb_10, hb_10L, hb_10k, hb_10n, hb_10o⟩ := shp_a (W9 b_2 hb_2L) hb_2k 2 14 7 rfl (by decide)
  obtain ⟨b_11, hb_11, hb_11L, hb_11k, hb_11n, hb_11o⟩ := shp_a (W9 b_2 hb_2L) hb_2k 3 15 6 rfl (by decide)
  have ebqx_0 : ∀ I J, TBf R I J (rr_ R x 0) = TBq I J b_2 b_9 b_10 b_11 := fun I J => by simp only [TBf, rr_, Option.getD_some, hb_9, hb_10, hb_11, hb_2]
  have dbqx_0 : ∀ I J, TBf R I J b_2 = TBq I J b_2 b_9 b_10 b_11 := fun I J => by simp only [TBf, rr_, Option.getD_some, hb_9, hb_10, hb_11, hb_2]
  have wbqx_0 : bqw_ L κ ow b_2 b_9 b_10 b_11 := ⟨⟨hb_2L, hb_9L, hb_10L, hb_11L⟩, ⟨(ro_o hb_2k (by decide)), (ro_a hb_9k (by decide) hb_9o hb_2k rfl), (ro_a hb_10k (by decide) hb_10o hb_2k rfl), (ro_a hb_11k (by decide) hb_11o hb_2k rfl)⟩⟩
  obtain ⟨s_12, hs_12⟩ : ∃ z, TBq I J b_2 b_9 b_10 b_11 = z := ⟨_, rfl⟩
  obtain ⟨b_13, hb_13, hb_13L, hb_13k, hb_13n, hb_13o⟩ := shp_a (W9 b_1 hb_1L) hb_1k 2 14 42 rfl (by decide)
  have ecqx_1 : ∀ I J, CPf R I J (rr_ R x 1) = CPq I J b_1 b_13 := fun I J => by simp only [CPf, rr_, Option.getD_some, hb_13, hb_1]
  have dcqx_1 : ∀ I J, CPf R I J b_1 = CPq I J b_1 b_13 := fun I J => by simp only [CPf, rr_, Option.getD_some, hb_13, hb_1]
  have wcqx_1 : cqw_ L κ ow b_1 b_13 := ⟨⟨hb_1L, hb_13L⟩, ⟨(ro_o hb_1k (by decide)), (ro_a hb_13k (by decide) hb_13o hb_1k rfl)⟩⟩
  obtain ⟨s_14, hs_14⟩ : ∃ z, CPq I J b_1 b_13 = z := ⟨_, rfl⟩
  have exqx : ∀ I J, XPf R I J x = XPq I J x := fun I J => by simp only [XPf, rr_, Option.getD_some]
  have wxqx : xqw_ L κ ow x := ⟨hLx, (ro_o hkx (by decide))⟩
  obtain ⟨s_15, hs_15⟩ : ∃ z, XPq I J x = z := ⟨_, rfl⟩
  refine g_lo (is := [0, 1]) (lo2 := [(0, .ref x), (1, .ref a0)]) rfl ?_
  have l_33 : ∀ (n_33 : Nat) (I_16 : Nat → Nat → Int32) (J_17 : Nat → Nat → Int64) (hU_18 : Iv L κ R ow I_16) (hF_19 : Fq L κ ow [107, 108, 109, 110, 111, 112, 805, 806, 807, 808, 902, 903, 1006, 1007, 1008, 1009, 1011, 1012, 16100, 16200, 16300, 16400, 16500, 16600, 58100, 58200, 58400, 70200, 70300] I I_16) (hG_20 : Fq L κ ow [1010, 58000, 58300, 70400] J J_17) (v_21 : Int32) (rv_21 : Rg 0 900 v_21) (hq_22 : rl v_21 ((TPq I_16 J_17 a0 b_3 b_4 b_5 b_6 b_7), (TBq I_16 J_17 b_2 b_9 b_10 b_11), (CPq I_16 J_17 b_1 b_13), (XPq I_16 J_17 x)) = rl 0 (fRfStart s_8 s_12 s_14 s_15)) (kt_23 : Kt_ L κ R I I_16 [rr_ R x 0]) (kn_24 : Kn_ L κ R J J_17 [rr_ R x 0]) (hm_25 : 900 < (v_21 : Int32).toInt + (n_33 : Int)), WG p l e { frames := 4, cells := 0, slots := 0, locals := 90 } s m ([.ref x, .ref a0] : List Value).toArray below meth c 3 0 0 (MQ below (Qi_ D cy L κ ln R (fun r I2 J2 => Iv L κ R ow I2 ∧ Fq L κ ow [107, 108, 109, 110, 111, 112, 805, 806, 807, 808, 902, 903, 1006, 1007, 1008, 1009, 1011, 1012, 16100, 16200, 16300, 16400, 16500, 16600, 58100, 58200, 58400, 70200, 70300] I I2 ∧ Fq L κ ow [1010, 58000, 58300, 70400] J J2 ∧ Rg 0 900 r ∧ ((r, TPf R I2 J2 a0, TBf R I2 J2 (rr_ R x 0), CPf R I2 J2 (rr_ R x 1), XPf R I2 J2 x) = fReadFrom (TPf R I J a0) (TBf R I J (rr_ R x 0)) (CPf R I J (rr_ R x 1)) (XPf R I J x)) ∧ (Kt_ L κ R I I2 [rr_ R x 0]) ∧ (Kn_ L κ R J J2 [rr_ R x 0]))) ([.ref x, .ref a0] : List Value).toArray s 0 0 (Al_ L)) D cy (Al_ L) s.heap L κ ln R I_16 J_17 33 [(0, .ref x), (1, .ref a0), (2, .int v_21)] [] := by
    intro n_33
    induction n_33 with
    | zero =>
      intro I_16 J_17 hU_18 hF_19 hG_20 v_21 rv_21 hq_22 kt_23 kn_24 hm_25
      exact ms_0 rv_21 hm_25
    | succ n_33 ih_33 =>
      intro I_16 J_17 hU_18 hF_19 hG_20 v_21 rv_21 hq_22 kt_23 kn_24 hm_25
      obtain ⟨s_26, hs_26⟩ : ∃ z, TPq I_16 J_17 a0 b_3 b_4 b_5 b_6 b_7 = z := ⟨_, rfl⟩
      obtain ⟨s_27, hs_27⟩ : ∃ z, TBq I_16 J_17 b_2 b_9 b_10 b_11 = z := ⟨_, rfl⟩
      obtain ⟨s_28, hs_28⟩ : ∃ z, CPq I_16 J_17 b_1 b_13 = z := ⟨_, rfl⟩
      obtain ⟨s_29, hs_29⟩ : ∃ z, XPq I_16 J_17 x = z := ⟨_, rfl⟩
      simp only [hs_26, hs_27, hs_28, hs_29] at hq_22
      have hQ_30 := hq_22.symm
      have u_31 := rl_eq (i := v_21) (s := (s_26, s_27, s_28, s_29)) (rv_21)
      refine g_iload_n C 2 dX9_readFrom_33 rfl rfl ?_
      refine g_sipush C (v := 900) dX9_readFrom_34 (by decide) ?_
      refine g_icmp_ge C (tgt := 63) dX9_readFrom_37 (by decide) (fun h_32 => ?_) (fun h_32 => ?_)
      · skip
        have r_33 := le_r (h_32) rc_900 rv_21
        refine g_iload_n C 2 dX9_readFrom_63 rfl rfl ?_
        exact g_zret (ty := .int) (r := v_21) B K rfl (rfl) ⟨hU_18, hF_19, hG_20, rg_w r_33 (by decide) (by decide), (by (try simp only [h_32, if_true, if_false, bqM_pnm, bqM_par, bqM_dnm, bqM_persons, bqM_dishes, bqM_law, bqM_dogs, TB_.w_pnm, TB_.w_par, TB_.w_dnm, TB_.w_persons, TB_.w_dishes, TB_.w_law, TB_.w_dogs, cqM_pcs, CP_.w_pcs, tqM_by_, tqM_wd, tqM_tk, tqM_pl, tqM_vl, tqM_len, tqM_n, tqM_at_, tqM_token, tqM_place, tqM_value, tqM_fault, tqM_fat, TP_.w_by_, TP_.w_wd, TP_.w_tk, TP_.w_pl, TP_.w_vl, TP_.w_len, TP_.w_n, TP_.w_at_, TP_.w_token, TP_.w_place, TP_.w_value, TP_.w_fault, TP_.w_fat, xqM_lt, xqM_dt, XP_.w_lt, XP_.w_dt] at hQ_30); (try simp only [h_32, if_true, if_false, bqM_pnm, bqM_par, bqM_dnm, bqM_persons, bqM_dishes, bqM_law, bqM_dogs, TB_.w_pnm, TB_.w_par, TB_.w_dnm, TB_.w_persons, TB_.w_dishes, TB_.w_law, TB_.w_dogs, cqM_pcs, CP_.w_pcs, tqM_by_, tqM_wd, tqM_tk, tqM_pl, tqM_vl, tqM_len, tqM_n, tqM_at_, tqM_token, tqM_place, tqM_value, tqM_fault, tqM_fat, TP_.w_by_, TP_.w_wd, TP_.w_tk, TP_.w_pl, TP_.w_vl, TP_.w_len, TP_.w_n, TP_.w_at_, TP_.w_token, TP_.w_place, TP_.w_value, TP_.w_fault, TP_.w_fat, xqM_lt, xqM_dt, XP_.w_lt, XP_.w_dt] at u_31); simp only [fReadFrom, etqa0, hs_26, hs_8, ebqx_0, dbqx_0, hs_27, hs_12, ecqx_1, dcqx_1, hs_28, hs_14, exqx, hs_29, hs_15, hQ_30, u_31, h_32, if_true, if_false, bqM_pnm, bqM_par, bqM_dnm, bqM_persons, bqM_dishes, bqM_law, bqM_dogs, TB_.w_pnm, TB_.w_par, TB_.w_dnm, TB_.w_persons, TB_.w_dishes, TB_.w_law, TB_.w_dogs, cqM_pcs, CP_.w_pcs, tqM_by_, tqM_wd, tqM_tk, tqM_pl, tqM_vl, tqM_len, tqM_n, tqM_at_, tqM_token, tqM_place, tqM_value, tqM_fault, tqM_fat, TP_.w_by_, TP_.w_wd, TP_.w_tk, TP_.w_pl, TP_.w_vl, TP_.w_len, TP_.w_n, TP_.w_at_, TP_.w_token, TP_.w_place, TP_.w_value, TP_.w_fault, TP_.w_fat, xqM_lt, xqM_dt, XP_.w_lt, XP_.w_dt]), kt_23, kn_24⟩ dX9_readFrom_64
      · skip
        have r_34 := lt_l (hi := 899) (nle h_32) rv_21 rc_900 (by decide)
        refine g_aload_n C 1 dX9_readFrom_40 rfl rfl ?_
        obtain ⟨x_35, hx_35, rx_35⟩ := ex_get (I := I_16) (a := a0) (j := 8) (lo := (-2147483648)) (hi := 2147483647) hU_18.1 hLa0 (ro_o hka0 (by decide)) rfl
        have f_36 : s_26.token = x_35 := (congrArg TP_.token hs_26).symm.trans hx_35
        refine g_getI C K hLa0 hka0 f_9_44 (v := x_35) hx_35 dX9_readFrom_41 ?_
        refine g_bipush C (v := 102) dX9_readFrom_44 (by decide) ?_
        refine g_icmp_eq C (tgt := 63) dX9_readFrom_46 (by decide) (fun h_37 => ?_) (fun h_37 => ?_)
        · skip
          have r_38 := (⟨(eq_rg (h_37) rc_102).1, (eq_rg (h_37) rc_102).2⟩ : Rg 102 102 x_35)
          refine g_iload_n C 2 dX9_readFrom_63 rfl rfl ?_
          exact g_zret (ty := .int) (r := v_21) B K rfl (rfl) ⟨hU_18, hF_19, hG_20, rg_w r_34 (by decide) (by decide), (by (try simp only [h_32, (nle h_32), hx_35, f_36, (eq_true h_37), if_true, if_false, bqM_pnm, bqM_par, bqM_dnm, bqM_persons, bqM_dishes, bqM_law, bqM_dogs, TB_.w_pnm, TB_.w_par, TB_.w_dnm, TB_.w_persons, TB_.w_dishes, TB_.w_law, TB_.w_dogs, cqM_pcs, CP_.w_pcs, tqM_by_, tqM_wd, tqM_tk, tqM_pl, tqM_vl, tqM_len, tqM_n, tqM_at_, tqM_token, tqM_place, tqM_value, tqM_fault, tqM_fat, TP_.w_by_, TP_.w_wd, TP_.w_tk, TP_.w_pl, TP_.w_vl, TP_.w_len, TP_.w_n, TP_.w_at_, TP_.w_token, TP_.w_place, TP_.w_value, TP_.w_fault, TP_.w_fat, xqM_lt, xqM_dt, XP_.w_lt, XP_.w_dt] at hQ_30); (try simp only [h_32, (nle h_32), hx_35, f_36, (eq_true h_37), if_true, if_false, bqM_pnm, bqM_par, bqM_dnm, bqM_persons, bqM_dishes, bqM_law, bqM_dogs, TB_.w_pnm, TB_.w_par, TB_.w_dnm, TB_.w_persons, TB_.w_dishes, TB_.w_law, TB_.w_dogs, cqM_pcs, CP_.w_pcs, tqM_by_, tqM_wd, tqM_tk, tqM_pl, tqM_vl, tqM_len, tqM_n, tqM_at_, tqM_token, tqM_place, tqM_value, tqM_fault, tqM_fat, TP_.w_by_, TP_.w_wd, TP_.w_tk, TP_.w_pl, TP_.w_vl, TP_.w_len, TP_.w_n, TP_.w_at_, TP_.w_token, TP_.w_place, TP_.w_value, TP_.w_fault, TP_.w_fat, xqM_lt, xqM_dt, XP_.w_lt, XP_.w_dt] at u_31); simp only [fReadFrom, etqa0, hs_26, hs_8, ebqx_0, dbqx_0, hs_27, hs_12, ecqx_1, dcqx_1, hs_28, hs_14, exqx, hs_29, hs_15, hQ_30, u_31, h_32, (nle h_32), hx_35, f_36, (eq_true h_37), if_true, if_false, bqM_pnm, bqM_par, bqM_dnm, bqM_persons, bqM_dishes, bqM_law, bqM_dogs, TB_.w_pnm, TB_.w_par, TB_.w_dnm, TB_.w_persons, TB_.w_dishes, TB_.w_law, TB_.w_dogs, cqM_pcs, CP_.w_pcs, tqM_by_, tqM_wd, tqM_tk, tqM_pl, tqM_vl, tqM_len, tqM_n, tqM_at_, tqM_token, tqM_place, tqM_value, tqM_fault, tqM_fat, TP_.w_by_, TP_.w_wd, TP_.w_tk, TP_.w_pl, TP_.w_vl, TP_.w_len, TP_.w_n, TP_.w_at_, TP_.w_token, TP_.w_place, TP_.w_value, TP_.w_fault, TP_.w_fat, xqM_lt, xqM_dt, XP_.w_lt, XP_.w_dt]), kt_23, kn_24⟩ dX9_readFrom_64
        · skip
          have n_39 : ¬ x_35 = 102 := h_37
          refine g_aload_n C 0 dX9_readFrom_49 rfl rfl ?_
          refine g_aload_n C 1 dX9_readFrom_50 rfl rfl ?_
          refine g_callVI C K (c_X9_readLine W9 hLx hkx hLa0 hka0  hU_18) hLx hkx (by decide) rfl v_9_48 rfl ⟨rfl, rfl⟩ ⟨Nat.le_of_ble_eq_true rfl, Nat.le_of_ble_eq_true rfl⟩ (Nat.le_of_ble_eq_true rfl) ⟨Nat.le_of_ble_eq_true rfl, Nat.le_of_ble_eq_true rfl⟩ dX9_readFrom_51 rfl (st := []) (fun x_40 I_41 J_42 h_43 => ?_)
          obtain ⟨hUI_41, hFI_41, hGJ_42, rx_40, fx_40, ex_40⟩ := h_43
          have hF_44 := fq_tr hF_19 hFI_41 (by decide)
          have hG_45 := fq_tr hG_20 hGJ_42 (by decide)
          obtain ⟨s_47, hs_47⟩ : ∃ z, TPq I_41 J_42 a0 b_3 b_4 b_5 b_6 b_7 = z := ⟨_, rfl⟩
          obtain ⟨s_48, hs_48⟩ : ∃ z, TBq I_41 J_42 b_2 b_9 b_10 b_11 = z := ⟨_, rfl⟩
          obtain ⟨s_49, hs_49⟩ : ∃ z, CPq I_41 J_42 b_1 b_13 = z := ⟨_, rfl⟩
          obtain ⟨s_50, hs_50⟩ : ∃ z, XPq I_41 J_42 x = z := ⟨_, rfl⟩
          have c_46 : fReadLine (s_26) (s_27) (s_28) (s_29) = (x_40, s_47, s_48, s_49, s_50) := by have q := fx_40; simp only [etqa0, ebqx_0, dbqx_0, ecqx_1, dcqx_1, exqx, hs_26, hs_27, hs_28, hs_29, hs_47, hs_48, hs_49, hs_50] at q; exact q.symm
          have kt_51 : Kt_ L κ R I I_41 [rr_ R x 0] := (kt_t kt_23 ex_40.1 (by simp only [rr_s hb_2]; simp only [List.mem_cons, List.not_mem_nil, or_false, forall_eq, true_or, or_true]))
          have kn_52 : Kn_ L κ R J J_42 [rr_ R x 0] := (kn_t kn_24 ex_40.2 (by simp only [rr_s hb_2]; simp only [List.mem_cons, List.not_mem_nil, or_false, forall_eq, true_or, or_true]))
          refine g_if_eq C (tgt := 63) dX9_readFrom_54 (by decide) (fun h_53 => ?_) (fun h_53 => ?_)
          · skip
            have r_54 := (⟨(rx_40).1, (eq_rg (h_53) rc_0).2⟩ : Rg 0 0 x_40)
            refine g_iload_n C 2 dX9_readFrom_63 rfl rfl ?_
            exact g_zret (ty := .int) (r := v_21) B K rfl (rfl) ⟨hUI_41, hF_44, hG_45, rg_w r_34 (by decide) (by decide), (by (try simp only [h_32, (nle h_32), hx_35, f_36, h_37, c_46, (eq_true h_53), if_true, if_false, bqM_pnm, bqM_par, bqM_dnm, bqM_persons, bqM_dishes, bqM_law, bqM_dogs, TB_.w_pnm, TB_.w_par, TB_.w_dnm, TB_.w_persons, TB_.w_dishes, TB_.w_law, TB_.w_dogs, cqM_pcs, CP_.w_pcs, tqM_by_, tqM_wd, tqM_tk, tqM_pl, tqM_vl, tqM_len, tqM_n, tqM_at_, tqM_token, tqM_place, tqM_value, tqM_fault, tqM_fat, TP_.w_by_, TP_.w_wd, TP_.w_tk, TP_.w_pl, TP_.w_vl, TP_.w_len, TP_.w_n, TP_.w_at_, TP_.w_token, TP_.w_place, TP_.w_value, TP_.w_fault, TP_.w_fat, xqM_lt, xqM_dt, XP_.w_lt, XP_.w_dt] at hQ_30); (try simp only [h_32, (nle h_32), hx_35, f_36, h_37, c_46, (eq_true h_53), if_true, if_false, bqM_pnm, bqM_par, bqM_dnm, bqM_persons, bqM_dishes, bqM_law, bqM_dogs, TB_.w_pnm, TB_.w_par, TB_.w_dnm, TB_.w_persons, TB_.w_dishes, TB_.w_law, TB_.w_dogs, cqM_pcs, CP_.w_pcs, tqM_by_, tqM_wd, tqM_tk, tqM_pl, tqM_vl, tqM_len, tqM_n, tqM_at_, tqM_token, tqM_place, tqM_value, tqM_fault, tqM_fat, TP_.w_by_, TP_.w_wd, TP_.w_tk, TP_.w_pl, TP_.w_vl, TP_.w_len, TP_.w_n, TP_.w_at_, TP_.w_token, TP_.w_place, TP_.w_value, TP_.w_fault, TP_.w_fat, xqM_lt, xqM_dt, XP_.w_lt, XP_.w_dt] at u_31); simp only [fReadFrom, etqa0, hs_47, hs_8, ebqx_0, dbqx_0, hs_48, hs_12, ecqx_1, dcqx_1, hs_49, hs_14, exqx, hs_50, hs_15, hQ_30, u_31, h_32, (nle h_32), hx_35, f_36, h_37, c_46, (eq_true h_53), if_true, if_false, bqM_pnm, bqM_par, bqM_dnm, bqM_persons, bqM_dishes, bqM_law, bqM_dogs, TB_.w_pnm, TB_.w_par, TB_.w_dnm, TB_.w_persons, TB_.w_dishes, TB_.w_law, TB_.w_dogs, cqM_pcs, CP_.w_pcs, tqM_by_, tqM_wd, tqM_tk, tqM_pl, tqM_vl, tqM_len, tqM_n, tqM_at_, tqM_token, tqM_place, tqM_value, tqM_fault, tqM_fat, TP_.w_by_, TP_.w_wd, TP_.w_tk, TP_.w_pl, TP_.w_vl, TP_.w_len, TP_.w_n, TP_.w_at_, TP_.w_token, TP_.w_place, TP_.w_value, TP_.w_fault, TP_.w_fat, xqM_lt, xqM_dt, XP_.w_lt, XP_.w_dt]), kt_51, kn_52⟩ dX9_readFrom_64
          · skip
            have n_55 : ¬ x_40 = 0 := h_53
            have r_56 := ne_lo (lo := 1) n_55 rx_40 rc_0 rfl (by decide)
            obtain ⟨x_57, hx_57, rx_57, tx_57⟩ := ex_add (y := 1) 1 900 r_34 rc_1 (by decide) (by decide) (by decide) (by decide)
            refine g_iinc C dX9_readFrom_57 (k := 2) (v := x_57) rfl hx_57 (by decide) (lo2 := [(2, .int x_57), (0, .ref x), (1, .ref a0)]) rfl ?_
            refine g_goto C (tgt := 33) dX9_readFrom_60 (by decide) ?_
            refine g_lo (is := [1, 2, 0]) (lo2 := [(0, .ref x), (1, .ref a0), (2, .int x_57)]) rfl ?_
            exact ih_33 I_41 J_42 hUI_41 hF_44 hG_45 x_57 (rg_w rx_57 (by decide) (by decide)) (by (try simp only [h_32, (nle h_32), hx_35, f_36, h_37, c_46, h_53, hx_57, if_true, if_false, bqM_pnm, bqM_par, bqM_dnm, bqM_persons, bqM_dishes, bqM_law, bqM_dogs, TB_.w_pnm, TB_.w_par, TB_.w_dnm, TB_.w_persons, TB_.w_dishes, TB_.w_law, TB_.w_dogs, cqM_pcs, CP_.w_pcs, tqM_by_, tqM_wd, tqM_tk, tqM_pl, tqM_vl, tqM_len, tqM_n, tqM_at_, tqM_token, tqM_place, tqM_value, tqM_fault, tqM_fat, TP_.w_by_, TP_.w_wd, TP_.w_tk, TP_.w_pl, TP_.w_vl, TP_.w_len, TP_.w_n, TP_.w_at_, TP_.w_token, TP_.w_place, TP_.w_value, TP_.w_fault, TP_.w_fat, xqM_lt, xqM_dt, XP_.w_lt, XP_.w_dt] at hQ_30); (try simp only [h_32, (nle h_32), hx_35, f_36, h_37, c_46, h_53, hx_57, if_true, if_false, bqM_pnm, bqM_par, bqM_dnm, bqM_persons, bqM_dishes, bqM_law, bqM_dogs, TB_.w_pnm, TB_.w_par, TB_.w_dnm, TB_.w_persons, TB_.w_dishes, TB_.w_law, TB_.w_dogs, cqM_pcs, CP_.w_pcs, tqM_by_, tqM_wd, tqM_tk, tqM_pl, tqM_vl, tqM_len, tqM_n, tqM_at_, tqM_token, tqM_place, tqM_value, tqM_fault, tqM_fat, TP_.w_by_, TP_.w_wd, TP_.w_tk, TP_.w_pl, TP_.w_vl, TP_.w_len, TP_.w_n, TP_.w_at_, TP_.w_token, TP_.w_place, TP_.w_value, TP_.w_fault, TP_.w_fat, xqM_lt, xqM_dt, XP_.w_lt, XP_.w_dt] at u_31); simp only [etqa0, hs_47, hs_8, ebqx_0, dbqx_0, hs_48, hs_12, ecqx_1, dcqx_1, hs_49, hs_14, exqx, hs_50, hs_15, hQ_30, u_31, h_32, (nle h_32), hx_35, f_36, h_37, c_46, h_53, hx_57, if_true, if_false, bqM_pnm, bqM_par, bqM_dnm, bqM_persons, bqM_dishes, bqM_law, bqM_dogs, TB_.w_pnm, TB_.w_par, TB_.w_dnm, TB_.w_persons, TB_.w_dishes, TB_.w_law, TB_.w_dogs, cqM_pcs, CP_.w_pcs, tqM_by_, tqM_wd, tqM_tk, tqM_pl, tqM_vl, tqM_len, tqM_n, tqM_at_, tqM_token, tqM_place, tqM_value, tqM_fault, tqM_fat, TP_.w_by_, TP_.w_wd, TP_.w_tk, TP_.w_pl, TP_.w_vl, TP_.w_len, TP_.w_n, TP_.w_at_, TP_.w_token, TP_.w_place, TP_.w_value, TP_.w_fault, TP_.w_fat, xqM_lt, xqM_dt, XP_.w_lt, XP_.w_dt]) kt_51 kn_52 (ms_1 hm_25 (ti_k tx_57 rc_1) (by decide))
  refine g_aload_n C 0 dX9_readFrom_0 rfl rfl ?_
  refine g_getR C K hLx hkx f_9_12 hb_2 dX9_readFrom_1 ?_
  refine g_callVV C K (c_X8_forget W9 hb_2L hb_2k   hU) hb_2L hb_2k (by decide) rfl v_9_34 rfl ⟨rfl, rfl⟩ ⟨Nat.le_of_ble_eq_true rfl, Nat.le_of_ble_eq_true rfl⟩ (Nat.le_of_ble_eq_true rfl) ⟨Nat.le_of_ble_eq_true rfl, Nat.le_of_ble_eq_true rfl⟩ dX9_readFrom_4 rfl (st := []) (fun I_59 J_60 h_61 => ?_)
  obtain ⟨hUI_59, hFI_59, hGJ_60, fx_58, ex_58⟩ := h_61
  have hF_62 := fq_tr hF hFI_59 (by decide)
  have hG_63 := fq_tr hG hGJ_60 (by decide)
  obtain ⟨s_65, hs_65⟩ : ∃ z, TBq I_59 J_60 b_2 b_9 b_10 b_11 = z := ⟨_, rfl⟩
  have c_64 : fForgetB (s_12) = s_65 := by have q := fx_58; simp only [ebqx_0, dbqx_0, hs_12, hs_65] at q; exact q.symm
  have hs_66 : TPq I_59 J_60 a0 b_3 b_4 b_5 b_6 b_7 = s_8 := (tq_fq wtqa0 hFI_59 hGJ_60 (by decide) (by decide)).trans hs_8
  have hs_67 : CPq I_59 J_60 b_1 b_13 = s_14 := (cq_fq wcqx_1 hFI_59 hGJ_60 (by decide) (by decide)).trans hs_14
  have hs_68 : XPq I_59 J_60 x = s_15 := (xq_fq wxqx hFI_59 hGJ_60 (by decide) (by decide)).trans hs_15
  have kt_69 : Kt_ L κ R I I_59 [rr_ R x 0] := (kt_t kt_rf ex_58 (by simp only [rr_s hb_2]; simp only [List.mem_cons, List.not_mem_nil, or_false, forall_eq, true_or, or_true]))
  have kn_70 : Kn_ L κ R J J_60 [rr_ R x 0] := (kn_fq W9 kn_rf hGJ_60 (by decide))
  refine g_aload_n C 0 dX9_readFrom_7 rfl rfl ?_
  refine g_getR C K hLx hkx f_9_23 hb_1 dX9_readFrom_8 ?_
  refine g_callVV C K (c_X1_forget W9 hb_1L hb_1k   hUI_59) hb_1L hb_1k (by decide) rfl v_9_37 rfl ⟨rfl, rfl⟩ ⟨Nat.le_of_ble_eq_true rfl, Nat.le_of_ble_eq_true rfl⟩ (Nat.le_of_ble_eq_true rfl) ⟨Nat.le_of_ble_eq_true rfl, Nat.le_of_ble_eq_true rfl⟩ dX9_readFrom_11 rfl (st := []) (fun I_72 J_73 h_74 => ?_)
  obtain ⟨hUI_72, hFI_72, hGJ_73, fx_71⟩ := h_74
  have hF_75 := fq_tr hF_62 hFI_72 (by decide)
  have hG_76 := fq_tr hG_63 hGJ_73 (by decide)
  obtain ⟨s_78, hs_78⟩ : ∃ z, CPq I_72 J_73 b_1 b_13 = z := ⟨_, rfl⟩
  have c_77 : fForgetC (s_14) = s_78 := by have q := fx_71; simp only [ecqx_1, dcqx_1, hs_67, hs_78] at q; exact q.symm
  have hs_79 : TPq I_72 J_73 a0 b_3 b_4 b_5 b_6 b_7 = s_8 := (tq_fq wtqa0 hFI_72 hGJ_73 (by decide) (by decide)).trans hs_66
  have hs_80 : TBq I_72 J_73 b_2 b_9 b_10 b_11 = s_65 := (bq_fq wbqx_0 hFI_72 hGJ_73 (by decide) (by decide)).trans hs_65
  have hs_81 : XPq I_72 J_73 x = s_15 := (xq_fq wxqx hFI_72 hGJ_73 (by decide) (by decide)).trans hs_68
  have kt_82 : Kt_ L κ R I I_72 [rr_ R x 0] := (kt_fq W9 kt_69 hFI_72 (by decide))
  have kn_83 : Kn_ L κ R J J_73 [rr_ R x 0] := (kn_fq W9 kn_70 hGJ_73 (by decide))
  refine g_aload_n C 0 dX9_readFrom_14 rfl rfl ?_
  refine g_iconst C (v := 0) dX9_readFrom_15 (by decide) ?_
  refine h_putZ C K hLx hkx f_9_27 p_9_2 (rg_bool (rg_w rc_0 (by decide) (by decide))) dX9_readFrom_16 (fun I_84 hI_84 => ?_)
  have hU_85 := iv_put W9 hUI_72 hI_84 (ro_o hkx (by decide)) (lo := 0) (hi := 1) (rfl) (rg_w rc_0 (by decide) (by decide)) rfl
  have hF_86 := fq_puto hF_75 hI_84 hkx (by decide) (by decide)
  have hs_87 : TPq I_84 J_73 a0 b_3 b_4 b_5 b_6 b_7 = s_8 := by rw [hI_84]; exact (tq_oI wtqa0 (ro_o hkx (by decide)) (by decide)).trans hs_79
  have hs_88 : TBq I_84 J_73 b_2 b_9 b_10 b_11 = s_65 := by rw [hI_84]; exact (bq_oI wbqx_0 (ro_o hkx (by decide)) (by decide)).trans hs_80
  have hs_89 : CPq I_84 J_73 b_1 b_13 = s_78 := by rw [hI_84]; exact (cq_oI wcqx_1 (ro_o hkx (by decide)) (by decide)).trans hs_78
  have hs_90 : XPq I_84 J_73 x = (XP_.w_lt s_15 (0)) := by rw [hI_84]; exact ((xq_lt wxqx).trans (congrArg (fun z : XP_ => XP_.w_lt z (0)) hs_81)).trans rfl
  refine g_aload_n C 0 dX9_readFrom_19 rfl rfl ?_
  refine g_iconst C (v := 0) dX9_readFrom_20 (by decide) ?_
  refine h_putZ C K hLx hkx f_9_31 p_9_3 (rg_bool (rg_w rc_0 (by decide) (by decide))) dX9_readFrom_21 (fun I_91 hI_91 => ?_)
  have hU_92 := iv_put W9 hU_85 hI_91 (ro_o hkx (by decide)) (lo := 0) (hi := 1) (rfl) (rg_w rc_0 (by decide) (by decide)) rfl
  have hF_93 := fq_puto hF_86 hI_91 hkx (by decide) (by decide)
  have hs_94 : TPq I_91 J_73 a0 b_3 b_4 b_5 b_6 b_7 = s_8 := by rw [hI_91]; exact (tq_oI wtqa0 (ro_o hkx (by decide)) (by decide)).trans hs_87
  have hs_95 : TBq I_91 J_73 b_2 b_9 b_10 b_11 = s_65 := by rw [hI_91]; exact (bq_oI wbqx_0 (ro_o hkx (by decide)) (by decide)).trans hs_88
  have hs_96 : CPq I_91 J_73 b_1 b_13 = s_78 := by rw [hI_91]; exact (cq_oI wcqx_1 (ro_o hkx (by decide)) (by decide)).trans hs_89
  have hs_97 : XPq I_91 J_73 x = (XP_.w_dt (XP_.w_lt s_15 (0)) (0)) := by rw [hI_91]; exact ((xq_dt wxqx).trans (congrArg (fun z : XP_ => XP_.w_dt z (0)) hs_90)).trans rfl
  refine g_aload_n C 1 dX9_readFrom_24 rfl rfl ?_
  refine g_sipush C (v := 900) dX9_readFrom_25 (by decide) ?_
  refine g_callVV C K (c_X10_begin W9 hLa0 hka0 900 (rg_w rc_900 (by decide) (by decide)) hU_92) hLa0 hka0 (by decide) rfl v_9_38 rfl ⟨rfl, rfl⟩ ⟨Nat.le_of_ble_eq_true rfl, Nat.le_of_ble_eq_true rfl⟩ (Nat.le_of_ble_eq_true rfl) ⟨Nat.le_of_ble_eq_true rfl, Nat.le_of_ble_eq_true rfl⟩ dX9_readFrom_28 rfl (st := []) (fun I_99 J_100 h_101 => ?_)
  obtain ⟨hUI_99, hFI_99, hGJ_100, fx_98⟩ := h_101
  have hF_102 := fq_tr hF_93 hFI_99 (by decide)
  have hG_103 := fq_tr hG_76 hGJ_100 (by decide)
  obtain ⟨s_105, hs_105⟩ : ∃ z, TPq I_99 J_100 a0 b_3 b_4 b_5 b_6 b_7 = z := ⟨_, rfl⟩
  have c_104 : fBegin (900) (s_8) = s_105 := by have q := fx_98; simp only [etqa0, hs_94, hs_105] at q; exact q.symm
  have hs_106 : TBq I_99 J_100 b_2 b_9 b_10 b_11 = s_65 := (bq_fq wbqx_0 hFI_99 hGJ_100 (by decide) (by decide)).trans hs_95
  have hs_107 : CPq I_99 J_100 b_1 b_13 = s_78 := (cq_fq wcqx_1 hFI_99 hGJ_100 (by decide) (by decide)).trans hs_96
  have hs_108 : XPq I_99 J_100 x = (XP_.w_dt (XP_.w_lt s_15 (0)) (0)) := (xq_fq wxqx hFI_99 hGJ_100 (by decide) (by decide)).trans hs_97
  have kt_109 : Kt_ L κ R I I_84 [rr_ R x 0] := (kt_u (r := 0) W9 kt_82 hI_84 (Or.inl (by rw [hkx]; decide)))
  have kt_110 : Kt_ L κ R I I_91 [rr_ R x 0] := (kt_u (r := 0) W9 kt_109 hI_91 (Or.inl (by rw [hkx]; decide)))
  have kt_111 : Kt_ L κ R I I_99 [rr_ R x 0] := (kt_fq W9 kt_110 hFI_99 (by decide))
  have kn_112 : Kn_ L κ R J J_100 [rr_ R x 0] := (kn_fq W9 kn_83 hGJ_100 (by decide))
  refine g_iconst C (v := 0) dX9_readFrom_31 (by decide) ?_
  refine g_istore_n C dX9_readFrom_32 rfl (by decide) (lo2 := [(2, .int 0), (0, .ref x), (1, .ref a0)]) rfl ?_
  refine g_lo (is := [1, 2, 0]) (lo2 := [(0, .ref x), (1, .ref a0), (2, .int 0)]) rfl ?_
  exact l_33 901 I_99 J_100 hUI_99 hF_102 hG_103 0 (rg_w rc_0 (by decide) (by decide)) (by simp only [fReadFrom, fRfStart, etqa0, hs_105, hs_8, ebqx_0, dbqx_0, hs_106, hs_12, ecqx_1, dcqx_1, hs_107, hs_14, exqx, hs_108, hs_15, c_64, c_77, c_104, if_true, if_false, bqM_pnm, bqM_par, bqM_dnm, bqM_persons, bqM_dishes, bqM_law, bqM_dogs, TB_.w_pnm, TB_.w_par, TB_.w_dnm, TB_.w_persons, TB_.w_dishes, TB_.w_law, TB_.w_dogs, cqM_pcs, CP_.w_pcs, tqM_by_, tqM_wd, tqM_tk, tqM_pl, tqM_vl, tqM_len, tqM_n, tqM_at_, tqM_token, tqM_place, tqM_value, tqM_fault, tqM_fat, TP_.w_by_, TP_.w_wd, TP_.w_tk, TP_.w_pl, TP_.w_vl, TP_.w_len, TP_.w_n, TP_.w_at_, TP_.w_token, TP_.w_place, TP_.w_value, TP_.w_fault, TP_.w_fat, xqM_lt, xqM_dt, XP_.w_lt, XP_.w_dt]) kt_111 kn_112 (ms_s (a := 0) (b := 900) (N := 901) (rg_w rc_0 (by decide) (by decide)) (by decide))
set_option maxRecDepth 100000 in
set_option maxHeartbeats 8000000 in
theorem c_X11_table {l : Launch} {D : va_G} {cy : Nat → ClassId} {L : List Nat} {κ ln : Nat → Nat} {R : Nat → Nat → Option Nat} {I : Nat → Nat → Int32} {J : Nat → Nat → Int64} {ow : Nat → Nat × Nat} (W9 : ∀ a ∈ L, Shp L κ ln R ow a) {x : Nat} (hLx : x ∈ L) (hkx : κ x = 11) (hU : Iv L κ R ow I) : CtI l yX11_table cX11_table 2 (some .int) { frames := 5, cells := 0, slots := 0, locals := 112 } D cy L κ ln R I J [.ref x] (fun r I2 J2 => Iv L κ R ow I2 ∧ Fq L κ ow [107, 108, 109, 110, 111, 112, 501, 704, 705, 805, 806, 807, 808, 902, 903, 1005, 1006, 1007, 1008, 1009, 1011, 1012, 16100, 16200, 16300, 16400, 16500, 16600, 58100, 58200, 58400, 70200, 70300] I I2 ∧ Fq L κ ow [1010, 58000, 58300, 70400] J J2 ∧ Rg (-2147483648) 2147483647 r ∧ (r = fTable (TPf R I J (rr_ R x 0)) (TBf R I J (rr_ R (rr_ R x 5) 0)) (CPf R I J (rr_ R (rr_ R x 5) 1)) (XPf R I J (rr_ R x 5))) ∧ (Kt_ L κ R I I2 [rr_ R x 1, rr_ R (rr_ R x 5) 0]) ∧ ((∀ b, fTableB (TPf R I J (rr_ R x 0)) (TBf R I J (rr_ R (rr_ R x 5) 0)) (CPf R I J (rr_ R (rr_ R x 5) 1)) (XPf R I J (rr_ R x 5)) = some b → ∀ h, R x 1 = some h → Ct_ R I2 h b) ∧ (fTableB (TPf R I J (rr_ R x 0)) (TBf R I J (rr_ R (rr_ R x 5) 0)) (CPf R I J (rr_ R (rr_ R x 5) 1)) (XPf R I J (rr_ R x 5)) = none → Kt_ L κ R I I2 [rr_ R (rr_ R x 5) 0])) ∧ (Kn_ L κ R J J2 [rr_ R x 1, rr_ R (rr_ R x 5) 0]) ∧ ((∀ b, fTableB (TPf R I J (rr_ R x 0)) (TBf R I J (rr_ R (rr_ R x 5) 0)) (CPf R I J (rr_ R (rr_ R x 5) 1)) (XPf R I J (rr_ R x 5)) = some b → ∀ h, R x 1 = some h → Cm_ R J2 h b) ∧ (fTableB (TPf R I J (rr_ R x 0)) (TBf R I J (rr_ R (rr_ R x 5) 0)) (CPf R I J (rr_ R (rr_ R x 5) 1)) (XPf R I J (rr_ R x 5)) = none → Kn_ L κ R J J2 [rr_ R (rr_ R x 5) 0])) ∧ (I2 (rr_ R x 0) 11 = fTableF (TPf R I J (rr_ R x 0)) (TBf R I J (rr_ R (rr_ R x 5) 0)) (CPf R I J (rr_ R (rr_ R x 5) 1)) (XPf R I J (rr_ R x 5)))) := by
  refine CtI.of (by decide +kernel) (Nat.le_of_ble_eq_true rfl) ?_
  intro p e s m below meth c B K
  have C := B.1
  have hF : Fq L κ ow [107, 108, 109, 110, 111, 112, 501, 704, 705, 805, 806, 807, 808, 902, 903, 1005, 1006, 1007, 1008, 1009, 1011, 1012, 16100, 16200, 16300, 16400, 16500, 16600, 58100, 58200, 58400, 70200, 70300] I I := fq_rf
  have hG : Fq L κ ow [1010, 58000, 58300, 70400] J J := fq_rf
  obtain ⟨b_1, hb_1, hb_1L, hb_1k⟩ := shp_o (W9 x hLx) hkx 4 5 rfl (by decide)
  obtain ⟨b_2, hb_2, hb_2L, hb_2k⟩ := shp_o (W9 x hLx) hkx 2 1 rfl (by decide)
  obtain ⟨b_3, hb_3, hb_3L, hb_3k⟩ := shp_o (W9 x hLx) hkx 5 9 rfl (by decide)
  obtain ⟨b_4, hb_4, hb_4L, hb_4k⟩ := shp_o (W9 x hLx) hkx 7 7 rfl (by decide)
  obtain ⟨b_5, hb_5, hb_5L, hb_5k⟩ := shp_o (W9 x hLx) hkx 1 8 rfl (by decide)
  obtain ⟨b_6, hb_6, hb_6L, hb_6k⟩ := shp_o (W9 x hLx) hkx 0 10 rfl (by decide)
  obtain ⟨b_7, hb_7, hb_7L, hb_7k⟩ := shp_o (W9 b_3 hb_3L) hb_3k 0 8 rfl (by decide)
  obtain ⟨b_8, hb_8, hb_8L, hb_8k⟩ := shp_o (W9 b_3 hb_3L) hb_3k 1 1 rfl (by decide)
  obtain ⟨b_9, hb_9, hb_9L, hb_9k, hb_9n, hb_9o⟩ := shp_a (W9 b_6 hb_6L) hb_6k 0 13 940 rfl (by decide)
  obtain ⟨b_10, hb_10, hb_10L, hb_10k, hb_10n, hb_10o⟩ := shp_a (W9 b_6 hb_6L) hb_6k 1 15 28 rfl (by decide)
  obtain ⟨b_11, hb_11, hb_11L, hb_11k, hb_11n, hb_11o⟩ := shp_a (W9 b_6 hb_6L) hb_6k 2 14 901 rfl (by decide)
  obtain ⟨b_12, hb_12, hb_12L, hb_12k, hb_12n, hb_12o⟩ := shp_a (W9 b_6 hb_6L) hb_6k 3 14 901 rfl (by decide)
  obtain ⟨b_13, hb_13, hb_13L, hb_13k, hb_13n, hb_13o⟩ := shp_a (W9 b_6 hb_6L) hb_6k 4 15 901 rfl (by decide)
  have etqx_0 : ∀ I J, TPf R I J (rr_ R x 0) = TPq I J b_6 b_9 b_10 b_11 b_12 b_13 := fun I J => by simp only [TPf, rr_, Option.getD_some, hb_9, hb_10, hb_11, hb_12, hb_13, hb_6]
  have dtqx_0 : ∀ I J, TPf R I J b_6 = TPq I J b_6 b_9 b_10 b_11 b_12 b_13 := fun I J => by simp only [TPf, rr_, Option.getD_some, hb_9, hb_10, hb_11, hb_12, hb_13, hb_6]
  have wtqx_0 : tqw_ L κ ow b_6 b_9 b_10 b_11 b_12 b_13 := ⟨⟨hb_6L, hb_9L, hb_10L, hb_11L, hb_12L, hb_13L⟩, ⟨(ro_o hb_6k (by decide)), (ro_a hb_9k (by decide) hb_9o hb_6k rfl), (ro_a hb_10k (by decide) hb_10o hb_6k rfl), (ro_a hb_11k (by decide) hb_11o hb_6k rfl), (ro_a hb_12k (by decide) hb_12o hb_6k rfl), (ro_a hb_13k (by decide) hb_13o hb_6k rfl)⟩⟩
  obtain ⟨s_14, hs_14⟩ : ∃ z, TPq I J b_6 b_9 b_10 b_11 b_12 b_13 = z := ⟨_, rfl⟩
  obtain ⟨b_15, hb_15, hb_15L, hb_15k, hb_15n, hb_15o⟩ := shp_a (W9 b_7 hb_7L) hb_7k 0 15 7 rfl (by decide)
  obtain ⟨b_16, hb_16, hb_16L, hb_16k, hb_16n, hb_16o⟩ := shp_a (W9 b_7 hb_7L) hb_7k 2 14 7 rfl (by decide)
  obtain ⟨b_17, hb_17, hb_17L, hb_17k, hb_17n, hb_17o⟩ := shp_a (W9 b_7 hb_7L) hb_7k 3 15 6 rfl (by decide)
  have ebqx_5_0 : ∀ I J, TBf R I J (rr_ R (rr_ R x 5) 0) = TBq I J b_7 b_15 b_16 b_17 := fun I J => by simp only [TBf, rr_, Option.getD_some, hb_15, hb_16, hb_17, hb_3, hb_7]
  have dbqx_5_0 : ∀ I J, TBf R I J b_7 = TBq I J b_7 b_15 b_16 b_17 := fun I J => by simp only [TBf, rr_, Option.getD_some, hb_15, hb_16, hb_17, hb_3, hb_7]
  have wbqx_5_0 : bqw_ L κ ow b_7 b_15 b_16 b_17 := ⟨⟨hb_7L, hb_15L, hb_16L, hb_17L⟩, ⟨(ro_o hb_7k (by decide)), (ro_a hb_15k (by decide) hb_15o hb_7k rfl), (ro_a hb_16k (by decide) hb_16o hb_7k rfl), (ro_a hb_17k (by decide) hb_17o hb_7k rfl)⟩⟩
  obtain ⟨s_18, hs_18⟩ : ∃ z, TBq I J b_7 b_15 b_16 b_17 = z := ⟨_, rfl⟩
  obtain ⟨b_19, hb_19, hb_19L, hb_19k, hb_19n, hb_19o⟩ := shp_a (W9 b_8 hb_8L) hb_8k 2 14 42 rfl (by decide)
  have ecqx_5_1 : ∀ I J, CPf R I J (rr_ R (rr_ R x 5) 1) = CPq I J b_8 b_19 := fun I J => by simp only [CPf, rr_, Option.getD_some, hb_19, hb_3, hb_8]
  have dcqx_5_1 : ∀ I J, CPf R I J b_8 = CPq I J b_8 b_19 := fun I J => by simp only [CPf, rr_, Option.getD_some, hb_19, hb_3, hb_8]
  have wcqx_5_1 : cqw_ L κ ow b_8 b_19 := ⟨⟨hb_8L, hb_19L⟩, ⟨(ro_o hb_8k (by decide)), (ro_a hb_19k (by decide) hb_19o hb_8k rfl)⟩⟩
  obtain ⟨s_20, hs_20⟩ : ∃ z, CPq I J b_8 b_19 = z := ⟨_, rfl⟩
  have exqx_5 : ∀ I J, XPf R I J (rr_ R x 5) = XPq I J b_3 := fun I J => by simp only [XPf, rr_, Option.getD_some, hb_3]
  have dxqx_5 : ∀ I J, XPf R I J b_3 = XPq I J b_3 := fun I J => by simp only [XPf, rr_, Option.getD_some, hb_3]
  have wxqx_5 : xqw_ L κ ow b_3 := ⟨hb_3L, (ro_o hb_3k (by decide))⟩
  obtain ⟨s_21, hs_21⟩ : ∃ z, XPq I J b_3 = z := ⟨_, rfl⟩
  refine g_lo (is := [0]) (lo2 := [(0, .ref x)]) rfl ?_
  refine g_aload_n C 0 dX11_table_0 rfl rfl ?_
  refine g_getR C K hLx hkx f_11_45 hb_3 dX11_table_1 ?_
  refine g_aload_n C 0 dX11_table_4 rfl rfl ?_
  refine g_getR C K hLx hkx f_11_10 hb_6 dX11_table_5 ?_
  refine g_callVI C K (c_X9_readFrom W9 hb_3L hb_3k hb_6L hb_6k  hU) hb_3L hb_3k (by decide) rfl v_11_109 rfl ⟨rfl, rfl⟩ ⟨Nat.le_of_ble_eq_true rfl, Nat.le_of_ble_eq_true rfl⟩ (Nat.le_of_ble_eq_true rfl) ⟨Nat.le_of_ble_eq_true rfl, Nat.le_of_ble_eq_true rfl⟩ dX11_table_8 rfl (st := []) (fun x_22 I_23 J_24 h_25 => ?_)
  obtain ⟨hUI_23, hFI_23, hGJ_24, rx_22, fx_22, ex_22⟩ := h_25
  have hF_26 := fq_tr hF hFI_23 (by decide)
  have hG_27 := fq_tr hG hGJ_24 (by decide)
  have d_28 : ∀ I J, TBf R I J (rr_ R b_3 0) = TBq I J b_7 b_15 b_16 b_17 := fun I J => by simp only [TBf, rr_, Option.getD_some, hb_7, hb_15, hb_16, hb_17]
  have d_29 : ∀ I J, CPf R I J (rr_ R b_3 1) = CPq I J b_8 b_19 := fun I J => by simp only [CPf, rr_, Option.getD_some, hb_8, hb_19]
  obtain ⟨s_31, hs_31⟩ : ∃ z, TPq I_23 J_24 b_6 b_9 b_10 b_11 b_12 b_13 = z := ⟨_, rfl⟩
  obtain ⟨s_32, hs_32⟩ : ∃ z, TBq I_23 J_24 b_7 b_15 b_16 b_17 = z := ⟨_, rfl⟩
  obtain ⟨s_33, hs_33⟩ : ∃ z, CPq I_23 J_24 b_8 b_19 = z := ⟨_, rfl⟩
  obtain ⟨s_34, hs_34⟩ : ∃ z, XPq I_23 J_24 b_3 = z := ⟨_, rfl⟩
  have c_30 : fReadFrom (s_14) (s_18) (s_20) (s_21) = (x_22, s_31, s_32, s_33, s_34) := by have q := fx_22; simp only [etqx_0, dtqx_0, ebqx_5_0, dbqx_5_0, ecqx_5_1, dcqx_5_1, exqx_5, dxqx_5, d_28, d_29, hs_14, hs_18, hs_20, hs_21, hs_31, hs_32, hs_33, hs_34] at q; exact q.symm
  have kt_35 : Kt_ L κ R I I_23 [rr_ R x 1, rr_ R (rr_ R x 5) 0] := (kt_t kt_rf ex_22.1 (by simp only [rr_s hb_5, rr_s hb_3, rr_s hb_7]; simp only [List.mem_cons, List.not_mem_nil, or_false, forall_eq, true_or, or_true]))
  have kt_36 : Kt_ L κ R I I_23 [rr_ R (rr_ R x 5) 0] := (kt_t kt_rf ex_22.1 (by simp only [rr_s hb_3, rr_s hb_7]; simp only [List.mem_cons, List.not_mem_nil, or_false, forall_eq, true_or, or_true]))
  have kn_37 : Kn_ L κ R J J_24 [rr_ R x 1, rr_ R (rr_ R x 5) 0] := (kn_t kn_rf ex_22.2 (by simp only [rr_s hb_5, rr_s hb_3, rr_s hb_7]; simp only [List.mem_cons, List.not_mem_nil, or_false, forall_eq, true_or, or_true]))
  have kn_38 : Kn_ L κ R J J_24 [rr_ R (rr_ R x 5) 0] := (kn_t kn_rf ex_22.2 (by simp only [rr_s hb_3, rr_s hb_7]; simp only [List.mem_cons, List.not_mem_nil, or_false, forall_eq, true_or, or_true]))
  refine g_istore_n C dX11_table_11 rfl (by decide) (lo2 := [(1, .int x_22), (0, .ref x)]) rfl ?_
  refine g_aload_n C 1 dX11_table_12 rfl rfl ?_
  refine g_getR C K hLx hkx f_11_10 hb_6 dX11_table_13 ?_
  refine g_iconst C (v := 0) dX11_table_16 (by decide) ?_
  refine h_putI C K hb_6L hb_6k f_11_102 p_10_5 dX11_table_17 (fun I_39 hI_39 => ?_)
  have hU_40 := iv_put W9 hUI_23 hI_39 (ro_o hb_6k (by decide)) (lo := 0) (hi := 940) (rfl) (rg_w rc_0 (by decide) (by decide)) rfl
  have hF_41 := fq_puto hF_26 hI_39 hb_6k (by decide) (by decide)
  have hs_42 : TPq I_39 J_24 b_6 b_9 b_10 b_11 b_12 b_13 = (TP_.w_len s_31 (0)) := by rw [hI_39]; exact ((tq_len wtqx_0).trans (congrArg (fun z : TP_ => TP_.w_len z (0)) hs_31)).trans rfl
  have hs_43 : TBq I_39 J_24 b_7 b_15 b_16 b_17 = s_32 := by rw [hI_39]; exact (bq_oI wbqx_5_0 (ro_o hb_6k (by decide)) (by decide)).trans hs_32
  have hs_44 : CPq I_39 J_24 b_8 b_19 = s_33 := by rw [hI_39]; exact (cq_oI wcqx_5_1 (ro_o hb_6k (by decide)) (by decide)).trans hs_33
  have hs_45 : XPq I_39 J_24 b_3 = s_34 := by rw [hI_39]; exact (xq_oI wxqx_5 (ro_o hb_6k (by decide)) (by decide)).trans hs_34
  refine g_aload_n C 1 dX11_table_20 rfl rfl ?_
  refine g_getR C K hLx hkx f_11_10 hb_6 dX11_table_21 ?_
  obtain ⟨x_46, hx_46, rx_46⟩ := ex_get (I := I_39) (a := b_6) (j := 11) (lo := (-2147483648)) (hi := 2147483647) hU_40.1 hb_6L (ro_o hb_6k (by decide)) rfl
  have f_47 : s_31.fault = x_46 := (congrArg TP_.fault hs_42).symm.trans hx_46
  refine g_getI C K hb_6L hb_6k f_11_113 (v := x_46) hx_46 dX11_table_24 ?_
  refine g_if_eq C (tgt := 40) dX11_table_27 (by decide) (fun h_48 => ?_) (fun h_48 => ?_)
  · skip
    have r_49 := (⟨(eq_rg (h_48) rc_0).1, (eq_rg (h_48) rc_0).2⟩ : Rg 0 0 x_46)
    refine g_aload_n C 1 dX11_table_40 rfl rfl ?_
    refine g_getR C K hLx hkx f_11_19 hb_5 dX11_table_41 ?_
    refine g_aload_n C 1 dX11_table_44 rfl rfl ?_
    refine g_getR C K hLx hkx f_11_45 hb_3 dX11_table_45 ?_
    refine g_getR C K hb_3L hb_3k f_11_119 hb_7 dX11_table_48 ?_
    refine g_callVV C K (c_X8_become W9 hb_5L hb_5k hb_7L hb_7k  hU_40) hb_5L hb_5k (by decide) rfl v_11_120 rfl ⟨rfl, rfl⟩ ⟨Nat.le_of_ble_eq_true rfl, Nat.le_of_ble_eq_true rfl⟩ (Nat.le_of_ble_eq_true rfl) ⟨Nat.le_of_ble_eq_true rfl, Nat.le_of_ble_eq_true rfl⟩ dX11_table_51 rfl (st := []) (fun I_51 J_52 h_53 => ?_)
    obtain ⟨hUI_51, hFI_51, hGJ_52, ex_50⟩ := h_53
    have hF_54 := fq_tr hF_41 hFI_51 (by decide)
    have hG_55 := fq_tr hG_27 hGJ_52 (by decide)
    have hs_56 : TPq I_51 J_52 b_6 b_9 b_10 b_11 b_12 b_13 = (TP_.w_len s_31 (0)) := (tq_fq wtqx_0 hFI_51 hGJ_52 (by decide) (by decide)).trans hs_42
    have hs_57 : CPq I_51 J_52 b_8 b_19 = s_33 := (cq_fq wcqx_5_1 hFI_51 hGJ_52 (by decide) (by decide)).trans hs_44
    have hs_58 : XPq I_51 J_52 b_3 = s_34 := (xq_fq wxqx_5 hFI_51 hGJ_52 (by decide) (by decide)).trans hs_45
    have kt_59 : Kt_ L κ R I I_39 [rr_ R x 1, rr_ R (rr_ R x 5) 0] := (kt_u (r := 0) W9 kt_35 hI_39 (Or.inl (by rw [hb_6k]; decide)))
    have kt_60 : Kt_ L κ R I I_39 [rr_ R (rr_ R x 5) 0] := (kt_u (r := 0) W9 kt_36 hI_39 (Or.inl (by rw [hb_6k]; decide)))
    have kt_61 : Kt_ L κ R I I_51 [rr_ R x 1, rr_ R (rr_ R x 5) 0] := (kt_t kt_59 ex_50.1 (by simp only [rr_s hb_5, rr_s hb_3, rr_s hb_7]; simp only [List.mem_cons, List.not_mem_nil, or_false, forall_eq, true_or, or_true]))
    have kn_62 : Kn_ L κ R J J_52 [rr_ R x 1, rr_ R (rr_ R x 5) 0] := (kn_t kn_37 ex_50.2.2.1 (by simp only [rr_s hb_5, rr_s hb_3, rr_s hb_7]; simp only [List.mem_cons, List.not_mem_nil, or_false, forall_eq, true_or, or_true]))
    refine g_aload_n C 1 dX11_table_54 rfl rfl ?_
    refine g_getR C K hLx hkx f_11_28 hb_2 dX11_table_55 ?_
    refine g_aload_n C 1 dX11_table_58 rfl rfl ?_
    refine g_getR C K hLx hkx f_11_45 hb_3 dX11_table_59 ?_
    refine g_getR C K hb_3L hb_3k f_11_123 hb_8 dX11_table_62 ?_
    refine g_callVV C K (c_X1_become W9 hb_2L hb_2k hb_8L hb_8k  hUI_51) hb_2L hb_2k (by decide) rfl v_11_126 rfl ⟨rfl, rfl⟩ ⟨Nat.le_of_ble_eq_true rfl, Nat.le_of_ble_eq_true rfl⟩ (Nat.le_of_ble_eq_true rfl) ⟨Nat.le_of_ble_eq_true rfl, Nat.le_of_ble_eq_true rfl⟩ dX11_table_65 rfl (st := []) (fun I_64 J_65 h_66 => ?_)
    obtain ⟨hUI_64, hFI_64, hGJ_65⟩ := h_66
    have hF_67 := fq_tr hF_54 hFI_64 (by decide)
    have hG_68 := fq_tr hG_55 hGJ_65 (by decide)
    have hs_69 : TPq I_64 J_65 b_6 b_9 b_10 b_11 b_12 b_13 = (TP_.w_len s_31 (0)) := (tq_fq wtqx_0 hFI_64 hGJ_65 (by decide) (by decide)).trans hs_56
    have hs_70 : XPq I_64 J_65 b_3 = s_34 := (xq_fq wxqx_5 hFI_64 hGJ_65 (by decide) (by decide)).trans hs_58
    have kt_71 : Kt_ L κ R I I_64 [rr_ R x 1, rr_ R (rr_ R x 5) 0] := (kt_fq W9 kt_61 hFI_64 (by decide))
    have kn_72 : Kn_ L κ R J J_65 [rr_ R x 1, rr_ R (rr_ R x 5) 0] := (kn_fq W9 kn_62 hGJ_65 (by decide))
    refine g_aload_n C 1 dX11_table_68 rfl rfl ?_
    refine g_getR C K hLx hkx f_11_59 hb_4 dX11_table_69 ?_
    refine g_callVV C K (c_X7_forget W9 hb_4L hb_4k   hUI_64) hb_4L hb_4k (by decide) rfl v_11_129 rfl ⟨rfl, rfl⟩ ⟨Nat.le_of_ble_eq_true rfl, Nat.le_of_ble_eq_true rfl⟩ (Nat.le_of_ble_eq_true rfl) ⟨Nat.le_of_ble_eq_true rfl, Nat.le_of_ble_eq_true rfl⟩ dX11_table_72 rfl (st := []) (fun I_74 J_75 h_76 => ?_)
    obtain ⟨hUI_74, hFI_74, hGJ_75, fx_73⟩ := h_76
    have hF_77 := fq_tr hF_67 hFI_74 (by decide)
    have hG_78 := fq_tr hG_68 hGJ_75 (by decide)
    have hs_79 : TPq I_74 J_75 b_6 b_9 b_10 b_11 b_12 b_13 = (TP_.w_len s_31 (0)) := (tq_fq wtqx_0 hFI_74 hGJ_75 (by decide) (by decide)).trans hs_69
    have hs_80 : XPq I_74 J_75 b_3 = s_34 := (xq_fq wxqx_5 hFI_74 hGJ_75 (by decide) (by decide)).trans hs_70
    have kt_81 : Kt_ L κ R I I_74 [rr_ R x 1, rr_ R (rr_ R x 5) 0] := (kt_fq W9 kt_71 hFI_74 (by decide))
    have kn_82 : Kn_ L κ R J J_75 [rr_ R x 1, rr_ R (rr_ R x 5) 0] := (kn_fq W9 kn_72 hGJ_75 (by decide))
    refine g_aload_n C 1 dX11_table_75 rfl rfl ?_
    refine g_getR C K hLx hkx f_11_38 hb_1 dX11_table_76 ?_
    refine g_callVV C K (c_X5_forget W9 hb_1L hb_1k   hUI_74) hb_1L hb_1k (by decide) rfl v_11_132 rfl ⟨rfl, rfl⟩ ⟨Nat.le_of_ble_eq_true rfl, Nat.le_of_ble_eq_true rfl⟩ (Nat.le_of_ble_eq_true rfl) ⟨Nat.le_of_ble_eq_true rfl, Nat.le_of_ble_eq_true rfl⟩ dX11_table_79 rfl (st := []) (fun I_84 J_85 h_86 => ?_)
    obtain ⟨hUI_84, hFI_84, hGJ_85⟩ := h_86
    have hF_87 := fq_tr hF_77 hFI_84 (by decide)
    have hG_88 := fq_tr hG_78 hGJ_85 (by decide)
    have hs_89 : TPq I_84 J_85 b_6 b_9 b_10 b_11 b_12 b_13 = (TP_.w_len s_31 (0)) := (tq_fq wtqx_0 hFI_84 hGJ_85 (by decide) (by decide)).trans hs_79
    have hs_90 : XPq I_84 J_85 b_3 = s_34 := (xq_fq wxqx_5 hFI_84 hGJ_85 (by decide) (by decide)).trans hs_80
    have kt_91 : Kt_ L κ R I I_84 [rr_ R x 1, rr_ R (rr_ R x 5) 0] := (kt_fq W9 kt_81 hFI_84 (by decide))
    have kn_92 : Kn_ L κ R J J_85 [rr_ R x 1, rr_ R (rr_ R x 5) 0] := (kn_fq W9 kn_82 hGJ_85 (by decide))
    refine g_iload_n C 0 dX11_table_82 rfl rfl ?_
    have tn_93 : fTableB (TPf R I J (rr_ R x 0)) (TBf R I J (rr_ R (rr_ R x 5) 0)) (CPf R I J (rr_ R (rr_ R x 5) 1)) (XPf R I J (rr_ R x 5)) = some s_32 := by simp only [fTableB, etqx_0, dtqx_0, hs_89, hs_14, ebqx_5_0, dbqx_5_0, hs_18, ecqx_5_1, dcqx_5_1, hs_20, exqx_5, dxqx_5, hs_90, hs_21, c_30, hx_46, f_47, (eq_true h_48), if_true, if_false, bqM_pnm, bqM_par, bqM_dnm, bqM_persons, bqM_dishes, bqM_law, bqM_dogs, TB_.w_pnm, TB_.w_par, TB_.w_dnm, TB_.w_persons, TB_.w_dishes, TB_.w_law, TB_.w_dogs, cqM_pcs, CP_.w_pcs, tqM_by_, tqM_wd, tqM_tk, tqM_pl, tqM_vl, tqM_len, tqM_n, tqM_at_, tqM_token, tqM_place, tqM_value, tqM_fault, tqM_fat, TP_.w_by_, TP_.w_wd, TP_.w_tk, TP_.w_pl, TP_.w_vl, TP_.w_len, TP_.w_n, TP_.w_at_, TP_.w_token, TP_.w_place, TP_.w_value, TP_.w_fault, TP_.w_fat, xqM_lt, xqM_dt, XP_.w_lt, XP_.w_dt]
    have tn_94 : fTableB (TPf R I J (rr_ R x 0)) (TBf R I J (rr_ R (rr_ R x 5) 0)) (CPf R I J (rr_ R (rr_ R x 5) 1)) (XPf R I J (rr_ R x 5)) = some s_32 := by simp only [fTableB, etqx_0, dtqx_0, hs_89, hs_14, ebqx_5_0, dbqx_5_0, hs_18, ecqx_5_1, dcqx_5_1, hs_20, exqx_5, dxqx_5, hs_90, hs_21, c_30, hx_46, f_47, (eq_true h_48), if_true, if_false, bqM_pnm, bqM_par, bqM_dnm, bqM_persons, bqM_dishes, bqM_law, bqM_dogs, TB_.w_pnm, TB_.w_par, TB_.w_dnm, TB_.w_persons, TB_.w_dishes, TB_.w_law, TB_.w_dogs, cqM_pcs, CP_.w_pcs, tqM_by_, tqM_wd, tqM_tk, tqM_pl, tqM_vl, tqM_len, tqM_n, tqM_at_, tqM_token, tqM_place, tqM_value, tqM_fault, tqM_fat, TP_.w_by_, TP_.w_wd, TP_.w_tk, TP_.w_pl, TP_.w_vl, TP_.w_len, TP_.w_n, TP_.w_at_, TP_.w_token, TP_.w_place, TP_.w_value, TP_.w_fault, TP_.w_fat, xqM_lt, xqM_dt, XP_.w_lt, XP_.w_dt]
    have q_95 := (fq_at hFI_84 hb_6L hb_6k (by decide) (by decide) (fq_at hFI_74 hb_6L hb_6k (by decide) (by decide) (fq_at hFI_64 hb_6L hb_6k (by decide) (by decide) (fq_at hFI_51 hb_6L hb_6k (by decide) (by decide) hx_46))))
    exact g_zret (ty := .int) (r := x_22) B K rfl (rfl) ⟨hUI_84, hF_87, hG_88, rg_all _, (by simp only [fTable, etqx_0, dtqx_0, hs_89, hs_14, ebqx_5_0, dbqx_5_0, hs_18, ecqx_5_1, dcqx_5_1, hs_20, exqx_5, dxqx_5, hs_90, hs_21, c_30, hx_46, f_47, (eq_true h_48), if_true, if_false, bqM_pnm, bqM_par, bqM_dnm, bqM_persons, bqM_dishes, bqM_law, bqM_dogs, TB_.w_pnm, TB_.w_par, TB_.w_dnm, TB_.w_persons, TB_.w_dishes, TB_.w_law, TB_.w_dogs, cqM_pcs, CP_.w_pcs, tqM_by_, tqM_wd, tqM_tk, tqM_pl, tqM_vl, tqM_len, tqM_n, tqM_at_, tqM_token, tqM_place, tqM_value, tqM_fault, tqM_fat, TP_.w_by_, TP_.w_wd, TP_.w_tk, TP_.w_pl, TP_.w_vl, TP_.w_len, TP_.w_n, TP_.w_at_, TP_.w_token, TP_.w_place, TP_.w_value, TP_.w_fault, TP_.w_fat, xqM_lt, xqM_dt, XP_.w_lt, XP_.w_dt]), kt_91, ⟨fun b hb h hh => by rw [tn_93] at hb; cases hb; rw [hb_5] at hh; cases hh; exact ct_of (sc_fq W9 hb_5L hb_5k (sc_fq W9 hb_5L hb_5k (sc_fq W9 hb_5L hb_5k ex_50.2.1 hFI_64 (by decide)) hFI_74 (by decide)) hFI_84 (by decide)) ⟨congrArg TB_.persons hs_43, congrArg TB_.dishes hs_43, congrArg TB_.law hs_43, congrArg TB_.dogs hs_43, (fun q hq j hj => by rw [hb_16] at hq; cases hq; exact congrFun (congrArg TB_.par hs_43) j)⟩ ⟨_, hb_16⟩, fun hb => by rw [tn_93] at hb; cases hb⟩, kn_92, ⟨fun b hb h hh => by rw [tn_94] at hb; cases hb; rw [hb_5] at hh; cases hh; exact cm_of (sn_fq W9 hb_5L hb_5k (sn_fq W9 hb_5L hb_5k (sn_fq W9 hb_5L hb_5k ex_50.2.2.2 hGJ_65 (by decide)) hGJ_75 (by decide)) hGJ_85 (by decide)) hb_15 hb_17 (fun j => congrFun (congrArg TB_.pnm hs_43) j) (fun j => congrFun (congrArg TB_.dnm hs_43) j), fun hb => by rw [tn_94] at hb; cases hb⟩, (by rw [rr_s hb_6, q_95]; simp only [fTableF, etqx_0, dtqx_0, hs_89, hs_14, ebqx_5_0, dbqx_5_0, hs_18, ecqx_5_1, dcqx_5_1, hs_20, exqx_5, dxqx_5, hs_90, hs_21, c_30, hx_46, f_47, (eq_true h_48), if_true, if_false, bqM_pnm, bqM_par, bqM_dnm, bqM_persons, bqM_dishes, bqM_law, bqM_dogs, TB_.w_pnm, TB_.w_par, TB_.w_dnm, TB_.w_persons, TB_.w_dishes, TB_.w_law, TB_.w_dogs, cqM_pcs, CP_.w_pcs, tqM_by_, tqM_wd, tqM_tk, tqM_pl, tqM_vl, tqM_len, tqM_n, tqM_at_, tqM_token, tqM_place, tqM_value, tqM_fault, tqM_fat, TP_.w_by_, TP_.w_wd, TP_.w_tk, TP_.w_pl, TP_.w_vl, TP_.w_len, TP_.w_n, TP_.w_at_, TP_.w_token, TP_.w_place, TP_.w_value, TP_.w_fault, TP_.w_fat, xqM_lt, xqM_dt, XP_.w_lt, XP_.w_dt])⟩ dX11_table_83
  · skip
    have n_96 : ¬ x_46 = 0 := h_48
    refine g_iconst C (v := (-1)) dX11_table_30 (by decide) ?_
    refine g_aload_n C 1 dX11_table_31 rfl rfl ?_
    refine g_getR C K hLx hkx f_11_10 hb_6 dX11_table_32 ?_
    obtain ⟨x_97, hx_97, rx_97⟩ := ex_get (I := I_39) (a := b_6) (j := 12) (lo := (-2147483648)) (hi := 2147483647) hU_40.1 hb_6L (ro_o hb_6k (by decide)) rfl
    have f_98 : s_31.fat = x_97 := (congrArg TP_.fat hs_42).symm.trans hx_97
    refine g_getI C K hb_6L hb_6k f_11_116 (v := x_97) hx_97 dX11_table_35 ?_
    obtain ⟨x_99, hx_99, rx_99, tx_99⟩ := ex_sub (-2147483648) 2147483647 rc_m1 rx_97 (by decide) (by decide) (by decide) (by decide)
    refine g_isub C (v := x_99) dX11_table_38 hx_99 ?_
    have kt_100 : Kt_ L κ R I I_39 [rr_ R x 1, rr_ R (rr_ R x 5) 0] := (kt_u (r := 0) W9 kt_35 hI_39 (Or.inl (by rw [hb_6k]; decide)))
    have kt_101 : Kt_ L κ R I I_39 [rr_ R (rr_ R x 5) 0] := (kt_u (r := 0) W9 kt_36 hI_39 (Or.inl (by rw [hb_6k]; decide)))
    have tn_102 : fTableB (TPf R I J (rr_ R x 0)) (TBf R I J (rr_ R (rr_ R x 5) 0)) (CPf R I J (rr_ R (rr_ R x 5) 1)) (XPf R I J (rr_ R x 5)) = none := by simp only [fTableB, etqx_0, dtqx_0, hs_42, hs_14, ebqx_5_0, dbqx_5_0, hs_43, hs_18, ecqx_5_1, dcqx_5_1, hs_44, hs_20, exqx_5, dxqx_5, hs_45, hs_21, c_30, hx_46, f_47, h_48, hx_97, f_98, hx_99, if_true, if_false, bqM_pnm, bqM_par, bqM_dnm, bqM_persons, bqM_dishes, bqM_law, bqM_dogs, TB_.w_pnm, TB_.w_par, TB_.w_dnm, TB_.w_persons, TB_.w_dishes, TB_.w_law, TB_.w_dogs, cqM_pcs, CP_.w_pcs, tqM_by_, tqM_wd, tqM_tk, tqM_pl, tqM_vl, tqM_len, tqM_n, tqM_at_, tqM_token, tqM_place, tqM_value, tqM_fault, tqM_fat, TP_.w_by_, TP_.w_wd, TP_.w_tk, TP_.w_pl, TP_.w_vl, TP_.w_len, TP_.w_n, TP_.w_at_, TP_.w_token, TP_.w_place, TP_.w_value, TP_.w_fault, TP_.w_fat, xqM_lt, xqM_dt, XP_.w_lt, XP_.w_dt]
    have tn_103 : fTableB (TPf R I J (rr_ R x 0)) (TBf R I J (rr_ R (rr_ R x 5) 0)) (CPf R I J (rr_ R (rr_ R x 5) 1)) (XPf R I J (rr_ R x 5)) = none := by simp only [fTableB, etqx_0, dtqx_0, hs_42, hs_14, ebqx_5_0, dbqx_5_0, hs_43, hs_18, ecqx_5_1, dcqx_5_1, hs_44, hs_20, exqx_5, dxqx_5, hs_45, hs_21, c_30, hx_46, f_47, h_48, hx_97, f_98, hx_99, if_true, if_false, bqM_pnm, bqM_par, bqM_dnm, bqM_persons, bqM_dishes, bqM_law, bqM_dogs, TB_.w_pnm, TB_.w_par, TB_.w_dnm, TB_.w_persons, TB_.w_dishes, TB_.w_law, TB_.w_dogs, cqM_pcs, CP_.w_pcs, tqM_by_, tqM_wd, tqM_tk, tqM_pl, tqM_vl, tqM_len, tqM_n, tqM_at_, tqM_token, tqM_place, tqM_value, tqM_fault, tqM_fat, TP_.w_by_, TP_.w_wd, TP_.w_tk, TP_.w_pl, TP_.w_vl, TP_.w_len, TP_.w_n, TP_.w_at_, TP_.w_token, TP_.w_place, TP_.w_value, TP_.w_fault, TP_.w_fat, xqM_lt, xqM_dt, XP_.w_lt, XP_.w_dt]
    exact g_zret (ty := .int) (r := x_99) B K rfl (rfl) ⟨hU_40, hF_41, hG_27, rx_99, (by simp only [fTable, etqx_0, dtqx_0, hs_42, hs_14, ebqx_5_0, dbqx_5_0, hs_43, hs_18, ecqx_5_1, dcqx_5_1, hs_44, hs_20, exqx_5, dxqx_5, hs_45, hs_21, c_30, hx_46, f_47, h_48, hx_97, f_98, hx_99, if_true, if_false, bqM_pnm, bqM_par, bqM_dnm, bqM_persons, bqM_dishes, bqM_law, bqM_dogs, TB_.w_pnm, TB_.w_par, TB_.w_dnm, TB_.w_persons, TB_.w_dishes, TB_.w_law, TB_.w_dogs, cqM_pcs, CP_.w_pcs, tqM_by_, tqM_wd, tqM_tk, tqM_pl, tqM_vl, tqM_len, tqM_n, tqM_at_, tqM_token, tqM_place, tqM_value, tqM_fault, tqM_fat, TP_.w_by_, TP_.w_wd, TP_.w_tk, TP_.w_pl, TP_.w_vl, TP_.w_len, TP_.w_n, TP_.w_at_, TP_.w_token, TP_.w_place, TP_.w_value, TP_.w_fault, TP_.w_fat, xqM_lt, xqM_dt, XP_.w_lt, XP_.w_dt]), kt_100, ⟨fun b hb => (by rw [tn_102] at hb; cases hb), fun _ => kt_101⟩, kn_37, ⟨fun b hb => (by rw [tn_103] at hb; cases hb), fun _ => kn_38⟩, (by rw [rr_s hb_6, hx_46]; simp only [fTableF, etqx_0, dtqx_0, hs_42, hs_14, ebqx_5_0, dbqx_5_0, hs_43, hs_18, ecqx_5_1, dcqx_5_1, hs_44, hs_20, exqx_5, dxqx_5, hs_45, hs_21, c_30, hx_46, f_47, h_48, hx_97, f_98, hx_99, if_true, if_false, bqM_pnm, bqM_par, bqM_dnm, bqM_persons, bqM_dishes, bqM_law, bqM_dogs, TB_.w_pnm, TB_.w_par, TB_.w_dnm, TB_.w_persons, TB_.w_dishes, TB_.w_law, TB_.w_dogs, cqM_pcs, CP_.w_pcs, tqM_by_, tqM_wd, tqM_tk, tqM_pl, tqM_vl, tqM_len, tqM_n, tqM_at_, tqM_token, tqM_place, tqM_value, tqM_fault, tqM_fat, TP_.w_by_, TP_.w_wd, TP_.w_tk, TP_.w_pl, TP_.w_vl, TP_.w_len, TP_.w_n, TP_.w_at_, TP_.w_token, TP_.w_place, TP_.w_value, TP_.w_fault, TP_.w_fat, xqM_lt, xqM_dt, XP_.w_lt, XP_.w_dt])⟩ dX11_table_39
set_option maxRecDepth 100000 in
set_option maxHeartbeats 8000000 in
theorem c_X11_fault {l : Launch} {D : va_G} {cy : Nat → ClassId} {L : List Nat} {κ ln : Nat → Nat} {R : Nat → Nat → Option Nat} {I : Nat → Nat → Int32} {J : Nat → Nat → Int64} {ow : Nat → Nat × Nat} (W9 : ∀ a ∈ L, Shp L κ ln R ow a) {x : Nat} (hLx : x ∈ L) (hkx : κ x = 11) (hU : Iv L κ R ow I) : CtI l yX11_fault cX11_fault 1 (some .int) { frames := 0, cells := 0, slots := 0, locals := 0 } D cy L κ ln R I J [.ref x] (fun r I2 J2 => I = I2 ∧ J = J2 ∧ Rg (-2147483648) 2147483647 r ∧ (r = I (rr_ R x 0) 11)) := by
  refine CtI.of (by decide +kernel) (Nat.le_of_ble_eq_true rfl) ?_
  intro p e s m below meth c B K
  have C := B.1
  obtain ⟨b_1, hb_1, hb_1L, hb_1k⟩ := shp_o (W9 x hLx) hkx 0 10 rfl (by decide)
  refine g_lo (is := [0]) (lo2 := [(0, .ref x)]) rfl ?_
  refine g_aload_n C 0 dX11_fault_0 rfl rfl ?_
  refine g_getR C K hLx hkx f_11_10 hb_1 dX11_fault_1 ?_
  obtain ⟨x_2, hx_2, rx_2⟩ := ex_get (I := I) (a := b_1) (j := 11) (lo := (-2147483648)) (hi := 2147483647) hU.1 hb_1L (ro_o hb_1k (by decide)) rfl
  refine g_getI C K hb_1L hb_1k f_11_113 (v := x_2) hx_2 dX11_fault_4 ?_
  exact g_zret (ty := .int) (r := x_2) B K rfl (rfl) ⟨rfl, rfl, rx_2, (by rw [rr_s hb_1]; exact (hx_2).symm)⟩ dX11_fault_7
set_option maxRecDepth 100000 in
set_option maxHeartbeats 8000000 in
theorem c_X8_hasDish {l : Launch} {D : va_G} {cy : Nat → ClassId} {L : List Nat} {κ ln : Nat → Nat} {R : Nat → Nat → Option Nat} {I : Nat → Nat → Int32} {J : Nat → Nat → Int64} {ow : Nat → Nat × Nat} (W9 : ∀ a ∈ L, Shp L κ ln R ow a) {x : Nat} (hLx : x ∈ L) (hkx : κ x = 8) (a0 : Int32) (hU : Iv L κ R ow I) : CtI l yX8_hasDish cX8_hasDish 2 (some .boolean) { frames := 0, cells := 0, slots := 0, locals := 0 } D cy L κ ln R I J [.ref x, .int a0] (fun r I2 J2 => I = I2 ∧ J = J2 ∧ Rg 0 1 r ∧ (¬ r = 0 → Rg 0 5 a0)) := by
  refine CtI.of (by decide +kernel) (Nat.le_of_ble_eq_true rfl) ?_
  intro p e s m below meth c B K
  have C := B.1
  refine g_lo (is := [0, 1]) (lo2 := [(0, .ref x), (1, .int a0)]) rfl ?_
  refine g_iload_n C 1 dX8_hasDish_0 rfl rfl ?_
  refine g_if_lt C (tgt := 16) dX8_hasDish_1 (by decide) (fun h_1 => ?_) (fun h_1 => ?_)
  · skip
    have r_2 := lt_l (hi := (-1)) (h_1) (rg_all a0) rc_0 (by decide)
    refine g_iconst C (v := 0) dX8_hasDish_16 (by decide) ?_
    exact g_zret (ty := .boolean) (r := 0) B K rfl (rfl) ⟨rfl, rfl, rg_w rc_0 (by decide) (by decide), (fun q => absurd rfl q)⟩ dX8_hasDish_17
  · skip
    have r_3 := le_r (nlt h_1) rc_0 (rg_all a0)
    refine g_iload_n C 1 dX8_hasDish_4 rfl rfl ?_
    refine g_aload_n C 0 dX8_hasDish_5 rfl rfl ?_
    obtain ⟨x_4, hx_4, rx_4⟩ := ex_get (I := I) (a := x) (j := 6) (lo := 0) (hi := 6) hU.1 hLx (ro_o hkx (by decide)) rfl
    refine g_getI C K hLx hkx f_8_32 (v := x_4) hx_4 dX8_hasDish_6 ?_
    refine g_icmp_ge C (tgt := 16) dX8_hasDish_9 (by decide) (fun h_5 => ?_) (fun h_5 => ?_)
    · skip
      refine g_iconst C (v := 0) dX8_hasDish_16 (by decide) ?_
      exact g_zret (ty := .boolean) (r := 0) B K rfl (rfl) ⟨rfl, rfl, rg_w rc_0 (by decide) (by decide), (fun q => absurd rfl q)⟩ dX8_hasDish_17
    · skip
      have r_6 := lt_l (hi := 5) (nle h_5) r_3 rx_4 (by decide)
      have r_7 := lt_r (lo := 1) (nle h_5) r_3 rx_4 (by decide)
      refine g_iconst C (v := 1) dX8_hasDish_12 (by decide) ?_
      refine g_goto C (tgt := 17) dX8_hasDish_13 (by decide) ?_
      exact g_zret (ty := .boolean) (r := 1) B K rfl (rfl) ⟨rfl, rfl, rg_w rc_1 (by decide) (by decide), (fun _ => r_6)⟩ dX8_hasDish_17
set_option maxRecDepth 100000 in
set_option maxHeartbeats 8000000 in
theorem c_X8_hasPerson {l : Launch} {D : va_G} {cy : Nat → ClassId} {L : List Nat} {κ ln : Nat → Nat} {R : Nat → Nat → Option Nat} {I : Nat → Nat → Int32} {J : Nat → Nat → Int64} {ow : Nat → Nat × Nat} (W9 : ∀ a ∈ L, Shp L κ ln R ow a) {x : Nat} (hLx : x ∈ L) (hkx : κ x = 8) (a0 : Int32) (hU : Iv L κ R ow I) : CtI l yX8_hasPerson cX8_hasPerson 2 (some .boolean) { frames := 0, cells := 0, slots := 0, locals := 0 } D cy L κ ln R I J [.ref x, .int a0] (fun r I2 J2 => I = I2 ∧ J = J2 ∧ Rg 0 1 r ∧ (¬ r = 0 → Rg 0 6 a0)) := by
  refine CtI.of (by decide +kernel) (Nat.le_of_ble_eq_true rfl) ?_
  intro p e s m below meth c B K
  have C := B.1
  refine g_lo (is := [0, 1]) (lo2 := [(0, .ref x), (1, .int a0)]) rfl ?_
  refine g_iload_n C 1 dX8_hasPerson_0 rfl rfl ?_
  refine g_if_lt C (tgt := 16) dX8_hasPerson_1 (by decide) (fun h_1 => ?_) (fun h_1 => ?_)
  · skip
    have r_2 := lt_l (hi := (-1)) (h_1) (rg_all a0) rc_0 (by decide)
    refine g_iconst C (v := 0) dX8_hasPerson_16 (by decide) ?_
    exact g_zret (ty := .boolean) (r := 0) B K rfl (rfl) ⟨rfl, rfl, rg_w rc_0 (by decide) (by decide), (fun q => absurd rfl q)⟩ dX8_hasPerson_17
  · skip
    have r_3 := le_r (nlt h_1) rc_0 (rg_all a0)
    refine g_iload_n C 1 dX8_hasPerson_4 rfl rfl ?_
    refine g_aload_n C 0 dX8_hasPerson_5 rfl rfl ?_
    obtain ⟨x_4, hx_4, rx_4⟩ := ex_get (I := I) (a := x) (j := 5) (lo := 0) (hi := 7) hU.1 hLx (ro_o hkx (by decide)) rfl
    refine g_getI C K hLx hkx f_8_28 (v := x_4) hx_4 dX8_hasPerson_6 ?_
    refine g_icmp_ge C (tgt := 16) dX8_hasPerson_9 (by decide) (fun h_5 => ?_) (fun h_5 => ?_)
    · skip
      refine g_iconst C (v := 0) dX8_hasPerson_16 (by decide) ?_
      exact g_zret (ty := .boolean) (r := 0) B K rfl (rfl) ⟨rfl, rfl, rg_w rc_0 (by decide) (by decide), (fun q => absurd rfl q)⟩ dX8_hasPerson_17
    · skip
      have r_6 := lt_l (hi := 6) (nle h_5) r_3 rx_4 (by decide)
      have r_7 := lt_r (lo := 1) (nle h_5) r_3 rx_4 (by decide)
      refine g_iconst C (v := 1) dX8_hasPerson_12 (by decide) ?_
      refine g_goto C (tgt := 17) dX8_hasPerson_13 (by decide) ?_
      exact g_zret (ty := .boolean) (r := 1) B K rfl (rfl) ⟨rfl, rfl, rg_w rc_1 (by decide) (by decide), (fun _ => r_6)⟩ dX8_hasPerson_17
set_option maxRecDepth 100000 in
set_option maxHeartbeats 8000000 in
theorem c_X11_plate {l : Launch} {D : va_G} {cy : Nat → ClassId} {L : List Nat} {κ ln : Nat → Nat} {R : Nat → Nat → Option Nat} {I : Nat → Nat → Int32} {J : Nat → Nat → Int64} {ow : Nat → Nat × Nat} (W9 : ∀ a ∈ L, Shp L κ ln R ow a) {x : Nat} (hLx : x ∈ L) (hkx : κ x = 11) (a0 : Int32) (a1 : Int32) (hU : Iv L κ R ow I) : CtI l yX11_plate cX11_plate 3 (some .int) { frames := 1, cells := 0, slots := 0, locals := 22 } D cy L κ ln R I J [.ref x, .int a0, .int a1] (fun r I2 J2 => I = I2 ∧ J = J2 ∧ Rg (-2147483648) 2147483647 r) := by
  refine CtI.of (by decide +kernel) (Nat.le_of_ble_eq_true rfl) ?_
  intro p e s m below meth c B K
  have C := B.1
  obtain ⟨b_1, hb_1, hb_1L, hb_1k⟩ := shp_o (W9 x hLx) hkx 1 8 rfl (by decide)
  obtain ⟨b_2, hb_2, hb_2L, hb_2k⟩ := shp_o (W9 x hLx) hkx 2 1 rfl (by decide)
  refine g_lo (is := [0, 1, 2]) (lo2 := [(0, .ref x), (1, .int a0), (2, .int a1)]) rfl ?_
  refine g_aload_n C 0 dX11_plate_0 rfl rfl ?_
  refine g_getR C K hLx hkx f_11_19 hb_1 dX11_plate_1 ?_
  refine g_iload_n C 1 dX11_plate_4 rfl rfl ?_
  refine g_callVI C K (c_X8_hasPerson W9 hb_1L hb_1k a0  hU) hb_1L hb_1k (by decide) rfl v_11_133 rfl ⟨rfl, rfl⟩ ⟨Nat.le_of_ble_eq_true rfl, Nat.le_of_ble_eq_true rfl⟩ (Nat.le_of_ble_eq_true rfl) ⟨Nat.le_of_ble_eq_true rfl, Nat.le_of_ble_eq_true rfl⟩ dX11_plate_5 rfl (st := []) (fun x_3 I_4 J_5 h_6 => ?_)
  obtain ⟨rfl, rfl, rx_3, ex_3⟩ := h_6
  refine g_if_eq C (tgt := 22) dX11_plate_8 (by decide) (fun h_7 => ?_) (fun h_7 => ?_)
  · skip
    have r_8 := (⟨(rx_3).1, (eq_rg (h_7) rc_0).2⟩ : Rg 0 0 x_3)
    refine g_iconst C (v := (-1)) dX11_plate_22 (by decide) ?_
    exact g_zret (ty := .int) (r := (-1)) B K rfl (rfl) ⟨rfl, rfl, rg_all _⟩ dX11_plate_23
  · skip
    have n_9 : ¬ x_3 = 0 := h_7
    have r_10 := ne_lo (lo := 1) n_9 rx_3 rc_0 rfl (by decide)
    have r_11 := rg_i (rg_all a0) ((ex_3) n_9) (lo := 0) (hi := 6) (by decide) (by decide)
    refine g_aload_n C 0 dX11_plate_11 rfl rfl ?_
    refine g_getR C K hLx hkx f_11_19 hb_1 dX11_plate_12 ?_
    refine g_iload_n C 2 dX11_plate_15 rfl rfl ?_
    refine g_callVI C K (c_X8_hasDish W9 hb_1L hb_1k a1  hU) hb_1L hb_1k (by decide) rfl v_11_175 rfl ⟨rfl, rfl⟩ ⟨Nat.le_of_ble_eq_true rfl, Nat.le_of_ble_eq_true rfl⟩ (Nat.le_of_ble_eq_true rfl) ⟨Nat.le_of_ble_eq_true rfl, Nat.le_of_ble_eq_true rfl⟩ dX11_plate_16 rfl (st := []) (fun x_12 I_13 J_14 h_15 => ?_)
    obtain ⟨rfl, rfl, rx_12, ex_12⟩ := h_15
    refine g_if_ne C (tgt := 24) dX11_plate_19 (by decide) (fun h_16 => ?_) (fun h_16 => ?_)
    · skip
      have n_17 : ¬ x_12 = 0 := h_16
      have r_18 := ne_lo (lo := 1) n_17 rx_12 rc_0 rfl (by decide)
      have r_19 := rg_i (rg_all a1) ((ex_12) n_17) (lo := 0) (hi := 5) (by decide) (by decide)
      refine g_aload_n C 0 dX11_plate_24 rfl rfl ?_
      refine g_getR C K hLx hkx f_11_28 hb_2 dX11_plate_25 ?_
      refine g_iload_n C 1 dX11_plate_28 rfl rfl ?_
      refine g_iload_n C 2 dX11_plate_29 rfl rfl ?_
      refine g_callVI C K (c_X1_onPlate W9 hb_2L hb_2k a0 a1 (r_11) (r_19) hU) hb_2L hb_2k (by decide) rfl v_11_178 rfl ⟨rfl, rfl⟩ ⟨Nat.le_of_ble_eq_true rfl, Nat.le_of_ble_eq_true rfl⟩ (Nat.le_of_ble_eq_true rfl) ⟨Nat.le_of_ble_eq_true rfl, Nat.le_of_ble_eq_true rfl⟩ dX11_plate_30 rfl (st := []) (fun x_20 I_21 J_22 h_23 => ?_)
      obtain ⟨rfl, rfl, rx_20, fx_20⟩ := h_23
      exact g_zret (ty := .int) (r := x_20) B K rfl (rfl) ⟨rfl, rfl, rx_20⟩ dX11_plate_33
    · skip
      have r_24 := (⟨(rx_12).1, (eq_rg (h_16) rc_0).2⟩ : Rg 0 0 x_12)
      refine g_iconst C (v := (-1)) dX11_plate_22 (by decide) ?_
      exact g_zret (ty := .int) (r := (-1)) B K rfl (rfl) ⟨rfl, rfl, rg_all _⟩ dX11_plate_23
set_option maxRecDepth 100000 in
set_option maxHeartbeats 8000000 in
theorem c_X1_onPlatesOf {l : Launch} {D : va_G} {cy : Nat → ClassId} {L : List Nat} {κ ln : Nat → Nat} {R : Nat → Nat → Option Nat} {I : Nat → Nat → Int32} {J : Nat → Nat → Int64} {ow : Nat → Nat × Nat} (W9 : ∀ a ∈ L, Shp L κ ln R ow a) {x : Nat} (hLx : x ∈ L) (hkx : κ x = 1) (a0 : Int32) (a1 : Int32) (ra0 : Rg 0 127 a0) (ra1 : Rg 0 5 a1) (hU : Iv L κ R ow I) : CtI l yX1_onPlatesOf cX1_onPlatesOf 5 (some .int) { frames := 1, cells := 0, slots := 0, locals := 22 } D cy L κ ln R I J [.ref x, .int a0, .int a1] (fun r I2 J2 => I = I2 ∧ J = J2 ∧ Rg (-2147483648) 2147483647 r) := by
  refine CtI.of (by decide +kernel) (Nat.le_of_ble_eq_true rfl) ?_
  intro p e s m below meth c B K
  have C := B.1
  obtain ⟨b_1, hb_1, hb_1L, hb_1k⟩ := shp_o (W9 x hLx) hkx 0 8 rfl (by decide)
  refine g_lo (is := [0, 1, 2]) (lo2 := [(0, .ref x), (1, .int a0), (2, .int a1)]) rfl ?_
  have l_5 : ∀ (n_5 : Nat) (v_2 : Int32) (rv_2 : Rg 0 127 v_2) (v_3 : Int32) (rv_3 : Rg 0 5 v_3) (v_4 : Int32) (v_5 : Int32) (rv_5 : Rg 0 7 v_5) (hm_6 : 7 < (v_5 : Int32).toInt + (n_5 : Int)), WG p l e { frames := 1, cells := 0, slots := 0, locals := 22 } s m ([.ref x, .int a0, .int a1] : List Value).toArray below meth c 5 0 0 (MQ below (Qi_ D cy L κ ln R (fun r I2 J2 => I = I2 ∧ J = J2 ∧ Rg (-2147483648) 2147483647 r)) ([.ref x, .int a0, .int a1] : List Value).toArray s 0 0 (Al_ L)) D cy (Al_ L) s.heap L κ ln R I J 5 [(0, .ref x), (1, .int v_2), (2, .int v_3), (3, .int v_4), (4, .int v_5)] [] := by
    intro n_5
    induction n_5 with
    | zero =>
      intro v_2 rv_2 v_3 rv_3 v_4 v_5 rv_5 hm_6
      exact ms_0 rv_5 hm_6
    | succ n_5 ih_5 =>
      intro v_2 rv_2 v_3 rv_3 v_4 v_5 rv_5 hm_6
      have j_36 : ∀ (v_7 : Int32) (rv_7 : Rg 0 127 v_7) (v_8 : Int32) (rv_8 : Rg 0 5 v_8) (v_9 : Int32) (v_10 : Int32) (rv_10 : Rg 0 6 v_10) (v_11 : Int32) (rv_11 : Rg 1 7 v_11) (q_12 : I b_1 5 = v_11) (hm_13 : 7 < (v_10 : Int32).toInt + ((n_5 + 1 : Nat) : Int)), WG p l e { frames := 1, cells := 0, slots := 0, locals := 22 } s m ([.ref x, .int a0, .int a1] : List Value).toArray below meth c 5 0 0 (MQ below (Qi_ D cy L κ ln R (fun r I2 J2 => I = I2 ∧ J = J2 ∧ Rg (-2147483648) 2147483647 r)) ([.ref x, .int a0, .int a1] : List Value).toArray s 0 0 (Al_ L)) D cy (Al_ L) s.heap L κ ln R I J 36 [(0, .ref x), (1, .int v_7), (2, .int v_8), (3, .int v_9), (4, .int v_10)] [] := by
        intro v_7 rv_7 v_8 rv_8 v_9 v_10 rv_10 v_11 rv_11 q_12 hm_13
        obtain ⟨x_14, hx_14, rx_14, tx_14⟩ := ex_add (y := 1) 1 7 rv_10 rc_1 (by decide) (by decide) (by decide) (by decide)
        refine g_iinc C dX1_onPlatesOf_36 (k := 4) (v := x_14) rfl hx_14 (by decide) (lo2 := [(4, .int x_14), (0, .ref x), (1, .int v_7), (2, .int v_8), (3, .int v_9)]) rfl ?_
        refine g_goto C (tgt := 5) dX1_onPlatesOf_39 (by decide) ?_
        refine g_lo (is := [1, 2, 3, 4, 0]) (lo2 := [(0, .ref x), (1, .int v_7), (2, .int v_8), (3, .int v_9), (4, .int x_14)]) rfl ?_
        exact ih_5 v_7 (rv_7) v_8 (rv_8) v_9 x_14 (rg_w rx_14 (by decide) (by decide)) (ms_1 hm_13 (ti_k tx_14 rc_1) (by decide))
      refine g_iload C 4 dX1_onPlatesOf_5 rfl ?_
      refine g_aload_n C 0 dX1_onPlatesOf_7 rfl rfl ?_
      refine g_getR C K hLx hkx f_1_52 hb_1 dX1_onPlatesOf_8 ?_
      obtain ⟨x_15, hx_15, rx_15⟩ := ex_get (I := I) (a := b_1) (j := 5) (lo := 0) (hi := 7) hU.1 hb_1L (ro_o hb_1k (by decide)) rfl
      refine g_getI C K hb_1L hb_1k f_1_68 (v := x_15) hx_15 dX1_onPlatesOf_11 ?_
      refine g_icmp_ge C (tgt := 42) dX1_onPlatesOf_14 (by decide) (fun h_16 => ?_) (fun h_16 => ?_)
      · skip
        refine g_iload_n C 3 dX1_onPlatesOf_42 rfl rfl ?_
        exact g_zret (ty := .int) (r := v_4) B K rfl (rfl) ⟨rfl, rfl, (rg_all v_4)⟩ dX1_onPlatesOf_43
      · skip
        have r_17 := lt_l (hi := 6) (nle h_16) rv_5 rx_15 (by decide)
        have r_18 := lt_r (lo := 1) (nle h_16) rv_5 rx_15 (by decide)
        refine g_iload_n C 1 dX1_onPlatesOf_17 rfl rfl ?_
        refine g_iload C 4 dX1_onPlatesOf_18 rfl ?_
        obtain ⟨x_19, hx_19, rx_19⟩ := ex_shr (x := v_2) (y := v_5) (b := 127) (rv_2)
        refine g_ishr C (v := x_19) dX1_onPlatesOf_20 hx_19 ?_
        refine g_iconst C (v := 1) dX1_onPlatesOf_21 (by decide) ?_
        obtain ⟨x_20, hx_20, rx_20⟩ := ex_andr (x := x_19) (y := 1) (b := 1) (rg_w rc_1 (by decide) (by decide))
        refine g_iand C (v := x_20) dX1_onPlatesOf_22 hx_20 ?_
        refine g_if_eq C (tgt := 36) dX1_onPlatesOf_23 (by decide) (fun h_21 => ?_) (fun h_21 => ?_)
        · skip
          have r_22 := (⟨(rx_20).1, (eq_rg (h_21) rc_0).2⟩ : Rg 0 0 x_20)
          refine g_lo (is := [0, 1, 2, 3, 4]) (lo2 := [(0, .ref x), (1, .int v_2), (2, .int v_3), (3, .int v_4), (4, .int v_5)]) rfl ?_
          exact j_36 v_2 (rv_2) v_3 (rv_3) v_4 v_5 (r_17) x_15 (r_18) hx_15 hm_6
        · skip
          have n_23 : ¬ x_20 = 0 := h_21
          have r_24 := ne_lo (lo := 1) n_23 rx_20 rc_0 rfl (by decide)
          refine g_iload_n C 3 dX1_onPlatesOf_26 rfl rfl ?_
          refine g_aload_n C 0 dX1_onPlatesOf_27 rfl rfl ?_
          refine g_iload C 4 dX1_onPlatesOf_28 rfl ?_
          refine g_iload_n C 2 dX1_onPlatesOf_30 rfl rfl ?_
          refine g_callVI C K (c_X1_onPlate W9 hLx hkx v_5 v_3 (r_17) (rv_3) hU) hLx hkx (by decide) rfl v_1_71 rfl ⟨rfl, rfl⟩ ⟨Nat.le_of_ble_eq_true rfl, Nat.le_of_ble_eq_true rfl⟩ (Nat.le_of_ble_eq_true rfl) ⟨Nat.le_of_ble_eq_true rfl, Nat.le_of_ble_eq_true rfl⟩ dX1_onPlatesOf_31 rfl (st := [.int v_4]) (fun x_25 I_26 J_27 h_28 => ?_)
          obtain ⟨rfl, rfl, rx_25, fx_25⟩ := h_28
          obtain ⟨x_29, hx_29, rx_29⟩ := ex_any (z0 := v_4 + x_25)
          refine g_iadd C (v := x_29) dX1_onPlatesOf_34 hx_29 ?_
          refine g_istore_n C dX1_onPlatesOf_35 rfl (by decide) (lo2 := [(3, .int x_29), (0, .ref x), (1, .int v_2), (2, .int v_3), (4, .int v_5)]) rfl ?_
          refine g_lo (is := [1, 2, 3, 0, 4]) (lo2 := [(0, .ref x), (1, .int v_2), (2, .int v_3), (3, .int x_29), (4, .int v_5)]) rfl ?_
          exact j_36 v_2 (rv_2) v_3 (rv_3) x_29 v_5 (r_17) x_15 (r_18) hx_15 hm_6
  refine g_iconst C (v := 0) dX1_onPlatesOf_0 (by decide) ?_
  refine g_istore_n C dX1_onPlatesOf_1 rfl (by decide) (lo2 := [(3, .int 0), (0, .ref x), (1, .int a0), (2, .int a1)]) rfl ?_
  refine g_iconst C (v := 0) dX1_onPlatesOf_2 (by decide) ?_
  refine g_istore C dX1_onPlatesOf_3 (by decide) (lo2 := [(4, .int 0), (3, .int 0), (0, .ref x), (1, .int a0), (2, .int a1)]) rfl ?_
  refine g_lo (is := [2, 3, 4, 1, 0]) (lo2 := [(0, .ref x), (1, .int a0), (2, .int a1), (3, .int 0), (4, .int 0)]) rfl ?_
  exact l_5 8 a0 (ra0) a1 (ra1) 0 0 (rg_w rc_0 (by decide) (by decide)) (ms_s (a := 0) (b := 7) (N := 8) (rg_w rc_0 (by decide) (by decide)) (by decide))
set_option maxRecDepth 100000 in
set_option maxHeartbeats 8000000 in
theorem c_X8_everybody {l : Launch} {D : va_G} {cy : Nat → ClassId} {L : List Nat} {κ ln : Nat → Nat} {R : Nat → Nat → Option Nat} {I : Nat → Nat → Int32} {J : Nat → Nat → Int64} {ow : Nat → Nat × Nat} (W9 : ∀ a ∈ L, Shp L κ ln R ow a) {x : Nat} (hLx : x ∈ L) (hkx : κ x = 8) (hU : Iv L κ R ow I) : CtI l yX8_everybody cX8_everybody 1 (some .int) { frames := 0, cells := 0, slots := 0, locals := 0 } D cy L κ ln R I J [.ref x] (fun r I2 J2 => I = I2 ∧ J = J2 ∧ Rg 0 127 r) := by
  refine CtI.of (by decide +kernel) (Nat.le_of_ble_eq_true rfl) ?_
  intro p e s m below meth c B K
  have C := B.1
  refine g_lo (is := [0]) (lo2 := [(0, .ref x)]) rfl ?_
  refine g_iconst C (v := 1) dX8_everybody_0 (by decide) ?_
  refine g_aload_n C 0 dX8_everybody_1 rfl rfl ?_
  obtain ⟨x_1, hx_1, rx_1⟩ := ex_get (I := I) (a := x) (j := 5) (lo := 0) (hi := 7) hU.1 hLx (ro_o hkx (by decide)) rfl
  refine g_getI C K hLx hkx f_8_28 (v := x_1) hx_1 dX8_everybody_2 ?_
  obtain ⟨x_2, hx_2, rx_2⟩ := ex_shl (x := 1) (y := x_1) 7 128 rfl (rx_1) (by decide)
  refine g_ishl C (v := x_2) dX8_everybody_5 hx_2 ?_
  refine g_iconst C (v := 1) dX8_everybody_6 (by decide) ?_
  obtain ⟨x_3, hx_3, rx_3, tx_3⟩ := ex_sub 0 127 rx_2 rc_1 (by decide) (by decide) (by decide) (by decide)
  refine g_isub C (v := x_3) dX8_everybody_7 hx_3 ?_
  exact g_zret (ty := .int) (r := x_3) B K rfl (rfl) ⟨rfl, rfl, rx_3⟩ dX8_everybody_8
set_option maxRecDepth 100000 in
set_option maxHeartbeats 8000000 in
theorem c_X11_dish {l : Launch} {D : va_G} {cy : Nat → ClassId} {L : List Nat} {κ ln : Nat → Nat} {R : Nat → Nat → Option Nat} {I : Nat → Nat → Int32} {J : Nat → Nat → Int64} {ow : Nat → Nat × Nat} (W9 : ∀ a ∈ L, Shp L κ ln R ow a) {x : Nat} (hLx : x ∈ L) (hkx : κ x = 11) (a0 : Int32) (a1 : Int32) (hU : Iv L κ R ow I) : CtI l yX11_dish cX11_dish 3 (some .int) { frames := 2, cells := 0, slots := 0, locals := 46 } D cy L κ ln R I J [.ref x, .int a0, .int a1] (fun r I2 J2 => I = I2 ∧ J = J2 ∧ Rg (-2147483648) 2147483647 r) := by
  refine CtI.of (by decide +kernel) (Nat.le_of_ble_eq_true rfl) ?_
  intro p e s m below meth c B K
  have C := B.1
  obtain ⟨b_1, hb_1, hb_1L, hb_1k⟩ := shp_o (W9 x hLx) hkx 1 8 rfl (by decide)
  obtain ⟨b_2, hb_2, hb_2L, hb_2k⟩ := shp_o (W9 x hLx) hkx 2 1 rfl (by decide)
  obtain ⟨b_3, hb_3, hb_3L, hb_3k, hb_3n, hb_3o⟩ := shp_a (W9 b_1 hb_1L) hb_1k 4 14 6 rfl (by decide)
  obtain ⟨b_4, hb_4, hb_4L, hb_4k, hb_4n, hb_4o⟩ := shp_a (W9 b_2 hb_2L) hb_2k 1 14 6 rfl (by decide)
  refine g_lo (is := [0, 1, 2]) (lo2 := [(0, .ref x), (1, .int a0), (2, .int a1)]) rfl ?_
  refine g_aload_n C 0 dX11_dish_0 rfl rfl ?_
  refine g_getR C K hLx hkx f_11_19 hb_1 dX11_dish_1 ?_
  refine g_iload_n C 1 dX11_dish_4 rfl rfl ?_
  refine g_callVI C K (c_X8_hasDish W9 hb_1L hb_1k a0  hU) hb_1L hb_1k (by decide) rfl v_11_175 rfl ⟨rfl, rfl⟩ ⟨Nat.le_of_ble_eq_true rfl, Nat.le_of_ble_eq_true rfl⟩ (Nat.le_of_ble_eq_true rfl) ⟨Nat.le_of_ble_eq_true rfl, Nat.le_of_ble_eq_true rfl⟩ dX11_dish_5 rfl (st := []) (fun x_5 I_6 J_7 h_8 => ?_)
  obtain ⟨rfl, rfl, rx_5, ex_5⟩ := h_8
  refine g_if_ne C (tgt := 13) dX11_dish_8 (by decide) (fun h_9 => ?_) (fun h_9 => ?_)
  · skip
    have n_10 : ¬ x_5 = 0 := h_9
    have r_11 := ne_lo (lo := 1) n_10 rx_5 rc_0 rfl (by decide)
    have r_12 := rg_i (rg_all a0) ((ex_5) n_10) (lo := 0) (hi := 5) (by decide) (by decide)
    refine g_iload_n C 2 dX11_dish_13 rfl rfl ?_
    by_cases c_13 : a1.toInt = 0
    · skip
      have r_14 := rg_of (a := 0) (b := 0) 0 c_13 (by decide) (by decide)
      refine g_tableIn C (tgt := 40) dX11_dish_14 (by omega) (by omega) (off := 26) (by rw [c_13]; rfl) (by decide) ?_
      refine g_aload_n C 0 dX11_dish_40 rfl rfl ?_
      refine g_getR C K hLx hkx f_11_28 hb_2 dX11_dish_41 ?_
      refine g_getR C K hb_2L hb_2k f_11_182 hb_4 dX11_dish_44 ?_
      refine g_iload_n C 1 dX11_dish_47 rfl rfl ?_
      obtain ⟨x_15, hx_15, rx_15⟩ := ex_any (z0 := I b_4 (a0.toNatClampNeg))
      refine h_iald C K hb_4L hb_4k (v := x_15) (a0.toNatClampNeg) (rfl) (ix_0 r_12 (by decide)) (ix_lt r_12 (by decide) hb_4n (by decide)) hx_15 dX11_dish_48 ?_
      exact g_zret (ty := .int) (r := x_15) B K rfl (rfl) ⟨rfl, rfl, rx_15⟩ dX11_dish_49
    by_cases c_16 : a1.toInt = 1
    · skip
      have r_17 := rg_of (a := 1) (b := 1) 1 c_16 (by decide) (by decide)
      refine g_tableIn C (tgt := 50) dX11_dish_14 (by omega) (by omega) (off := 36) (by rw [c_16]; rfl) (by decide) ?_
      refine g_aload_n C 0 dX11_dish_50 rfl rfl ?_
      refine g_getR C K hLx hkx f_11_19 hb_1 dX11_dish_51 ?_
      refine g_getR C K hb_1L hb_1k f_11_185 hb_3 dX11_dish_54 ?_
      refine g_iload_n C 1 dX11_dish_57 rfl rfl ?_
      obtain ⟨x_18, hx_18, rx_18⟩ := ex_any (z0 := I b_3 (a0.toNatClampNeg))
      refine h_iald C K hb_3L hb_3k (v := x_18) (a0.toNatClampNeg) (rfl) (ix_0 r_12 (by decide)) (ix_lt r_12 (by decide) hb_3n (by decide)) hx_18 dX11_dish_58 ?_
      exact g_zret (ty := .int) (r := x_18) B K rfl (rfl) ⟨rfl, rfl, rx_18⟩ dX11_dish_59
    by_cases c_19 : a1.toInt = 2
    · skip
      have r_20 := rg_of (a := 2) (b := 2) 2 c_19 (by decide) (by decide)
      refine g_tableIn C (tgt := 60) dX11_dish_14 (by omega) (by omega) (off := 46) (by rw [c_19]; rfl) (by decide) ?_
      refine g_aload_n C 0 dX11_dish_60 rfl rfl ?_
      refine g_getR C K hLx hkx f_11_28 hb_2 dX11_dish_61 ?_
      refine g_aload_n C 0 dX11_dish_64 rfl rfl ?_
      refine g_getR C K hLx hkx f_11_19 hb_1 dX11_dish_65 ?_
      refine g_callVI C K (c_X8_everybody W9 hb_1L hb_1k   hU) hb_1L hb_1k (by decide) rfl v_11_188 rfl ⟨rfl, rfl⟩ ⟨Nat.le_of_ble_eq_true rfl, Nat.le_of_ble_eq_true rfl⟩ (Nat.le_of_ble_eq_true rfl) ⟨Nat.le_of_ble_eq_true rfl, Nat.le_of_ble_eq_true rfl⟩ dX11_dish_68 rfl (st := [.ref b_2]) (fun x_21 I_22 J_23 h_24 => ?_)
      obtain ⟨rfl, rfl, rx_21⟩ := h_24
      refine g_iload_n C 1 dX11_dish_71 rfl rfl ?_
      refine g_callVI C K (c_X1_onPlatesOf W9 hb_2L hb_2k x_21 a0 (rx_21) (r_12) hU) hb_2L hb_2k (by decide) rfl v_11_192 rfl ⟨rfl, rfl⟩ ⟨Nat.le_of_ble_eq_true rfl, Nat.le_of_ble_eq_true rfl⟩ (Nat.le_of_ble_eq_true rfl) ⟨Nat.le_of_ble_eq_true rfl, Nat.le_of_ble_eq_true rfl⟩ dX11_dish_72 rfl (st := []) (fun x_25 I_26 J_27 h_28 => ?_)
      obtain ⟨rfl, rfl, rx_25⟩ := h_28
      exact g_zret (ty := .int) (r := x_25) B K rfl (rfl) ⟨rfl, rfl, rx_25⟩ dX11_dish_75
    obtain ⟨q_291, q_292⟩ := (rg_all a1)
    refine g_tableOut C (tgt := 76) dX11_dish_14 (by omega) (by decide) ?_
    refine g_iconst C (v := (-1)) dX11_dish_76 (by decide) ?_
    exact g_zret (ty := .int) (r := (-1)) B K rfl (rfl) ⟨rfl, rfl, rg_all _⟩ dX11_dish_77
  · skip
    have r_30 := (⟨(rx_5).1, (eq_rg (h_9) rc_0).2⟩ : Rg 0 0 x_5)
    refine g_iconst C (v := (-1)) dX11_dish_11 (by decide) ?_
    exact g_zret (ty := .int) (r := (-1)) B K rfl (rfl) ⟨rfl, rfl, rg_all _⟩ dX11_dish_12
