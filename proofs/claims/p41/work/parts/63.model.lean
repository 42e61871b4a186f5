theorem dX12_isOne_0 : decode cX12_isOne 0 = .ok (.aload_n 0, 1) := by decide +kernel
theorem dX12_isOne_1 : decode cX12_isOne 1 = .ok (.invokevirtual 166, 3) := by decide +kernel
theorem dX12_isOne_4 : decode cX12_isOne 4 = .ok (.ifCond .ne 9, 3) := by decide +kernel
theorem dX12_isOne_7 : decode cX12_isOne 7 = .ok (.aload_n 0, 1) := by decide +kernel
theorem dX12_isOne_8 : decode cX12_isOne 8 = .ok (.iconst 1, 1) := by decide +kernel
theorem dX12_isOne_9 : decode cX12_isOne 9 = .ok (.invokevirtual 146, 3) := by decide +kernel
theorem dX12_isOne_12 : decode cX12_isOne 12 = .ok (.ireturn, 1) := by decide +kernel
theorem dX12_isOne_13 : decode cX12_isOne 13 = .ok (.aload_n 0, 1) := by decide +kernel
theorem dX12_isOne_14 : decode cX12_isOne 14 = .ok (.aload_n 0, 1) := by decide +kernel
theorem dX12_isOne_15 : decode cX12_isOne 15 = .ok (.getfield 32, 3) := by decide +kernel
theorem dX12_isOne_18 : decode cX12_isOne 18 = .ok (.iload_n 1, 1) := by decide +kernel
theorem dX12_isOne_19 : decode cX12_isOne 19 = .ok (.iload_n 2, 1) := by decide +kernel
theorem dX12_isOne_20 : decode cX12_isOne 20 = .ok (.aload_n 0, 1) := by decide +kernel
theorem dX12_isOne_21 : decode cX12_isOne 21 = .ok (.getfield 117, 3) := by decide +kernel
theorem dX12_isOne_24 : decode cX12_isOne 24 = .ok (.invokestatic 170, 3) := by decide +kernel
theorem dX12_isOne_27 : decode cX12_isOne 27 = .ok (.putfield 153, 3) := by decide +kernel
theorem dX12_isOne_30 : decode cX12_isOne 30 = .ok (.aload_n 0, 1) := by decide +kernel
theorem dX12_isOne_31 : decode cX12_isOne 31 = .ok (.getfield 153, 3) := by decide +kernel
theorem dX12_isOne_34 : decode cX12_isOne 34 = .ok (.iconst (-1), 1) := by decide +kernel
theorem dX12_isOne_35 : decode cX12_isOne 35 = .ok (.if_icmp .ne 11, 3) := by decide +kernel
theorem dX12_isOne_38 : decode cX12_isOne 38 = .ok (.aload_n 0, 1) := by decide +kernel
theorem dX12_isOne_39 : decode cX12_isOne 39 = .ok (.iconst 3, 1) := by decide +kernel
theorem dX12_isOne_40 : decode cX12_isOne 40 = .ok (.invokevirtual 146, 3) := by decide +kernel
theorem dX12_isOne_43 : decode cX12_isOne 43 = .ok (.ifCond .eq 7, 3) := by decide +kernel
theorem dX12_isOne_46 : decode cX12_isOne 46 = .ok (.iconst 1, 1) := by decide +kernel
theorem dX12_isOne_47 : decode cX12_isOne 47 = .ok (.goto 4, 3) := by decide +kernel
theorem dX12_isOne_50 : decode cX12_isOne 50 = .ok (.iconst 0, 1) := by decide +kernel
theorem dX12_isOne_51 : decode cX12_isOne 51 = .ok (.ireturn, 1) := by decide +kernel
theorem dX12_readLine_0 : decode cX12_readLine 0 = .ok (.aload_n 0, 1) := by decide +kernel
theorem dX12_readLine_1 : decode cX12_readLine 1 = .ok (.iconst 0, 1) := by decide +kernel
theorem dX12_readLine_2 : decode cX12_readLine 2 = .ok (.invokevirtual 191, 3) := by decide +kernel
theorem dX12_readLine_5 : decode cX12_readLine 5 = .ok (.ifCond .eq 8, 3) := by decide +kernel
theorem dX12_readLine_8 : decode cX12_readLine 8 = .ok (.aload_n 0, 1) := by decide +kernel
theorem dX12_readLine_9 : decode cX12_readLine 9 = .ok (.invokevirtual 201, 3) := by decide +kernel
theorem dX12_readLine_12 : decode cX12_readLine 12 = .ok (.ireturn, 1) := by decide +kernel
theorem dX12_readLine_13 : decode cX12_readLine 13 = .ok (.aload_n 0, 1) := by decide +kernel
theorem dX12_readLine_14 : decode cX12_readLine 14 = .ok (.iconst 1, 1) := by decide +kernel
theorem dX12_readLine_15 : decode cX12_readLine 15 = .ok (.invokevirtual 191, 3) := by decide +kernel
theorem dX12_readLine_18 : decode cX12_readLine 18 = .ok (.ifCond .eq 8, 3) := by decide +kernel
theorem dX12_readLine_21 : decode cX12_readLine 21 = .ok (.aload_n 0, 1) := by decide +kernel
theorem dX12_readLine_22 : decode cX12_readLine 22 = .ok (.invokevirtual 204, 3) := by decide +kernel
theorem dX12_readLine_25 : decode cX12_readLine 25 = .ok (.ireturn, 1) := by decide +kernel
theorem dX12_readLine_26 : decode cX12_readLine 26 = .ok (.aload_n 0, 1) := by decide +kernel
theorem dX12_readLine_27 : decode cX12_readLine 27 = .ok (.iconst 3, 1) := by decide +kernel
theorem dX12_readLine_28 : decode cX12_readLine 28 = .ok (.invokevirtual 191, 3) := by decide +kernel
theorem dX12_readLine_31 : decode cX12_readLine 31 = .ok (.ifCond .eq 8, 3) := by decide +kernel
theorem dX12_readLine_34 : decode cX12_readLine 34 = .ok (.aload_n 0, 1) := by decide +kernel
theorem dX12_readLine_35 : decode cX12_readLine 35 = .ok (.invokevirtual 207, 3) := by decide +kernel
theorem dX12_readLine_38 : decode cX12_readLine 38 = .ok (.ireturn, 1) := by decide +kernel
theorem dX12_readLine_39 : decode cX12_readLine 39 = .ok (.aload_n 0, 1) := by decide +kernel
theorem dX12_readLine_40 : decode cX12_readLine 40 = .ok (.iconst 4, 1) := by decide +kernel
theorem dX12_readLine_41 : decode cX12_readLine 41 = .ok (.invokevirtual 191, 3) := by decide +kernel
theorem dX12_readLine_44 : decode cX12_readLine 44 = .ok (.ifCond .eq 8, 3) := by decide +kernel
theorem dX12_readLine_47 : decode cX12_readLine 47 = .ok (.aload_n 0, 1) := by decide +kernel
theorem dX12_readLine_48 : decode cX12_readLine 48 = .ok (.invokevirtual 210, 3) := by decide +kernel
theorem dX12_readLine_51 : decode cX12_readLine 51 = .ok (.ireturn, 1) := by decide +kernel
theorem dX12_readLine_52 : decode cX12_readLine 52 = .ok (.aload_n 0, 1) := by decide +kernel
theorem dX12_readLine_53 : decode cX12_readLine 53 = .ok (.bipush 8, 2) := by decide +kernel
theorem dX12_readLine_55 : decode cX12_readLine 55 = .ok (.invokevirtual 191, 3) := by decide +kernel
theorem dX12_readLine_58 : decode cX12_readLine 58 = .ok (.ifCond .ne 9, 3) := by decide +kernel
theorem dX12_readLine_61 : decode cX12_readLine 61 = .ok (.aload_n 0, 1) := by decide +kernel
theorem dX12_readLine_62 : decode cX12_readLine 62 = .ok (.iconst 1, 1) := by decide +kernel
theorem dX12_readLine_63 : decode cX12_readLine 63 = .ok (.invokevirtual 146, 3) := by decide +kernel
theorem dX12_readLine_66 : decode cX12_readLine 66 = .ok (.ireturn, 1) := by decide +kernel
theorem dX12_readLine_67 : decode cX12_readLine 67 = .ok (.aload_n 0, 1) := by decide +kernel
theorem dX12_readLine_68 : decode cX12_readLine 68 = .ok (.getfield 213, 3) := by decide +kernel
theorem dX12_readLine_71 : decode cX12_readLine 71 = .ok (.ifCond .eq 9, 3) := by decide +kernel
theorem dX12_readLine_74 : decode cX12_readLine 74 = .ok (.aload_n 0, 1) := by decide +kernel
theorem dX12_readLine_75 : decode cX12_readLine 75 = .ok (.iconst 3, 1) := by decide +kernel
theorem dX12_readLine_76 : decode cX12_readLine 76 = .ok (.invokevirtual 146, 3) := by decide +kernel
theorem dX12_readLine_79 : decode cX12_readLine 79 = .ok (.ireturn, 1) := by decide +kernel
theorem dX12_readLine_80 : decode cX12_readLine 80 = .ok (.aload_n 0, 1) := by decide +kernel
theorem dX12_readLine_81 : decode cX12_readLine 81 = .ok (.iconst 1, 1) := by decide +kernel
theorem dX12_readLine_82 : decode cX12_readLine 82 = .ok (.putfield 213, 3) := by decide +kernel
theorem dX12_readLine_85 : decode cX12_readLine 85 = .ok (.aload_n 0, 1) := by decide +kernel
theorem dX12_readLine_86 : decode cX12_readLine 86 = .ok (.invokevirtual 156, 3) := by decide +kernel
theorem dX12_readLine_89 : decode cX12_readLine 89 = .ok (.aload_n 0, 1) := by decide +kernel
theorem dX12_readLine_90 : decode cX12_readLine 90 = .ok (.iconst 3, 1) := by decide +kernel
theorem dX12_readLine_91 : decode cX12_readLine 91 = .ok (.aload_n 0, 1) := by decide +kernel
theorem dX12_readLine_92 : decode cX12_readLine 92 = .ok (.iconst 0, 1) := by decide +kernel
theorem dX12_readLine_93 : decode cX12_readLine 93 = .ok (.bipush 9, 2) := by decide +kernel
theorem dX12_readLine_95 : decode cX12_readLine 95 = .ok (.invokevirtual 184, 3) := by decide +kernel
theorem dX12_readLine_98 : decode cX12_readLine 98 = .ok (.invokevirtual 187, 3) := by decide +kernel
theorem dX12_readLine_101 : decode cX12_readLine 101 = .ok (.ireturn, 1) := by decide +kernel
theorem dX12_readOne_0 : decode cX12_readOne 0 = .ok (.aload_n 0, 1) := by decide +kernel
theorem dX12_readOne_1 : decode cX12_readOne 1 = .ok (.iload_n 1, 1) := by decide +kernel
theorem dX12_readOne_2 : decode cX12_readOne 2 = .ok (.iload_n 2, 1) := by decide +kernel
theorem dX12_readOne_3 : decode cX12_readOne 3 = .ok (.invokevirtual 174, 3) := by decide +kernel
theorem dX12_readOne_6 : decode cX12_readOne 6 = .ok (.ifCond .ne 5, 3) := by decide +kernel
theorem dX12_readOne_9 : decode cX12_readOne 9 = .ok (.iconst 0, 1) := by decide +kernel
theorem dX12_readOne_10 : decode cX12_readOne 10 = .ok (.ireturn, 1) := by decide +kernel
theorem dX12_readOne_11 : decode cX12_readOne 11 = .ok (.aload_n 0, 1) := by decide +kernel
theorem dX12_readOne_12 : decode cX12_readOne 12 = .ok (.invokevirtual 156, 3) := by decide +kernel
theorem dX12_readOne_15 : decode cX12_readOne 15 = .ok (.iconst 1, 1) := by decide +kernel
theorem dX12_readOne_16 : decode cX12_readOne 16 = .ok (.ireturn, 1) := by decide +kernel
theorem dX12_readPerson_0 : decode cX12_readPerson 0 = .ok (.aload_n 0, 1) := by decide +kernel
theorem dX12_readPerson_1 : decode cX12_readPerson 1 = .ok (.iconst 0, 1) := by decide +kernel
theorem dX12_readPerson_2 : decode cX12_readPerson 2 = .ok (.bipush 7, 2) := by decide +kernel
theorem dX12_readPerson_4 : decode cX12_readPerson 4 = .ok (.invokevirtual 178, 3) := by decide +kernel
theorem dX12_readPerson_7 : decode cX12_readPerson 7 = .ok (.ifCond .ne 5, 3) := by decide +kernel
theorem dX12_readPerson_10 : decode cX12_readPerson 10 = .ok (.iconst 0, 1) := by decide +kernel
theorem dX12_readPerson_11 : decode cX12_readPerson 11 = .ok (.ireturn, 1) := by decide +kernel
theorem dX12_readPerson_12 : decode cX12_readPerson 12 = .ok (.aload_n 0, 1) := by decide +kernel
theorem dX12_readPerson_13 : decode cX12_readPerson 13 = .ok (.getfield 16, 3) := by decide +kernel
theorem dX12_readPerson_16 : decode cX12_readPerson 16 = .ok (.iconst 0, 1) := by decide +kernel
theorem dX12_readPerson_17 : decode cX12_readPerson 17 = .ok (.iaload, 1) := by decide +kernel
theorem dX12_readPerson_18 : decode cX12_readPerson 18 = .ok (.istore_n 1, 1) := by decide +kernel
theorem dX12_readPerson_19 : decode cX12_readPerson 19 = .ok (.aload_n 0, 1) := by decide +kernel
theorem dX12_readPerson_20 : decode cX12_readPerson 20 = .ok (.iload_n 1, 1) := by decide +kernel
theorem dX12_readPerson_21 : decode cX12_readPerson 21 = .ok (.invokevirtual 181, 3) := by decide +kernel
theorem dX12_readPerson_24 : decode cX12_readPerson 24 = .ok (.ifCond .eq 20, 3) := by decide +kernel
theorem dX12_readPerson_27 : decode cX12_readPerson 27 = .ok (.aload_n 0, 1) := by decide +kernel
theorem dX12_readPerson_28 : decode cX12_readPerson 28 = .ok (.iconst 4, 1) := by decide +kernel
theorem dX12_readPerson_29 : decode cX12_readPerson 29 = .ok (.iload_n 1, 1) := by decide +kernel
theorem dX12_readPerson_30 : decode cX12_readPerson 30 = .ok (.iadd, 1) := by decide +kernel
theorem dX12_readPerson_31 : decode cX12_readPerson 31 = .ok (.aload_n 0, 1) := by decide +kernel
theorem dX12_readPerson_32 : decode cX12_readPerson 32 = .ok (.iconst 0, 1) := by decide +kernel
theorem dX12_readPerson_33 : decode cX12_readPerson 33 = .ok (.bipush 20, 2) := by decide +kernel
theorem dX12_readPerson_35 : decode cX12_readPerson 35 = .ok (.invokevirtual 184, 3) := by decide +kernel
theorem dX12_readPerson_38 : decode cX12_readPerson 38 = .ok (.invokevirtual 187, 3) := by decide +kernel
theorem dX12_readPerson_41 : decode cX12_readPerson 41 = .ok (.ifCond .ne 5, 3) := by decide +kernel
theorem dX12_readPerson_44 : decode cX12_readPerson 44 = .ok (.iconst 0, 1) := by decide +kernel
theorem dX12_readPerson_45 : decode cX12_readPerson 45 = .ok (.ireturn, 1) := by decide +kernel
theorem dX12_readPerson_46 : decode cX12_readPerson 46 = .ok (.aload_n 0, 1) := by decide +kernel
theorem dX12_readPerson_47 : decode cX12_readPerson 47 = .ok (.getfield 16, 3) := by decide +kernel
theorem dX12_readPerson_50 : decode cX12_readPerson 50 = .ok (.bipush 11, 2) := by decide +kernel
theorem dX12_readPerson_52 : decode cX12_readPerson 52 = .ok (.iload_n 1, 1) := by decide +kernel
theorem dX12_readPerson_53 : decode cX12_readPerson 53 = .ok (.iadd, 1) := by decide +kernel
theorem dX12_readPerson_54 : decode cX12_readPerson 54 = .ok (.iconst (-1), 1) := by decide +kernel
theorem dX12_readPerson_55 : decode cX12_readPerson 55 = .ok (.iastore, 1) := by decide +kernel
theorem dX12_readPerson_56 : decode cX12_readPerson 56 = .ok (.aload_n 0, 1) := by decide +kernel
theorem dX12_readPerson_57 : decode cX12_readPerson 57 = .ok (.bipush 22, 2) := by decide +kernel
theorem dX12_readPerson_59 : decode cX12_readPerson 59 = .ok (.invokevirtual 191, 3) := by decide +kernel
theorem dX12_readPerson_62 : decode cX12_readPerson 62 = .ok (.ifCond .eq 26, 3) := by decide +kernel
theorem dX12_readPerson_65 : decode cX12_readPerson 65 = .ok (.aload_n 0, 1) := by decide +kernel
theorem dX12_readPerson_66 : decode cX12_readPerson 66 = .ok (.invokevirtual 156, 3) := by decide +kernel
theorem dX12_readPerson_69 : decode cX12_readPerson 69 = .ok (.aload_n 0, 1) := by decide +kernel
theorem dX12_readPerson_70 : decode cX12_readPerson 70 = .ok (.bipush 11, 2) := by decide +kernel
theorem dX12_readPerson_72 : decode cX12_readPerson 72 = .ok (.iload_n 1, 1) := by decide +kernel
theorem dX12_readPerson_73 : decode cX12_readPerson 73 = .ok (.iadd, 1) := by decide +kernel
theorem dX12_readPerson_74 : decode cX12_readPerson 74 = .ok (.aload_n 0, 1) := by decide +kernel
theorem dX12_readPerson_75 : decode cX12_readPerson 75 = .ok (.iconst 0, 1) := by decide +kernel
theorem dX12_readPerson_76 : decode cX12_readPerson 76 = .ok (.iload_n 1, 1) := by decide +kernel
theorem dX12_readPerson_77 : decode cX12_readPerson 77 = .ok (.invokevirtual 194, 3) := by decide +kernel
theorem dX12_readPerson_80 : decode cX12_readPerson 80 = .ok (.invokevirtual 187, 3) := by decide +kernel
theorem dX12_readPerson_83 : decode cX12_readPerson 83 = .ok (.ifCond .ne 5, 3) := by decide +kernel
theorem dX12_readPerson_86 : decode cX12_readPerson 86 = .ok (.iconst 0, 1) := by decide +kernel
theorem dX12_readPerson_87 : decode cX12_readPerson 87 = .ok (.ireturn, 1) := by decide +kernel
theorem dX12_readPerson_88 : decode cX12_readPerson 88 = .ok (.aload_n 0, 1) := by decide +kernel
theorem dX12_readPerson_89 : decode cX12_readPerson 89 = .ok (.getfield 16, 3) := by decide +kernel
theorem dX12_readPerson_92 : decode cX12_readPerson 92 = .ok (.iconst 0, 1) := by decide +kernel
theorem dX12_readPerson_93 : decode cX12_readPerson 93 = .ok (.dup2, 1) := by decide +kernel
theorem dX12_readPerson_94 : decode cX12_readPerson 94 = .ok (.iaload, 1) := by decide +kernel
theorem dX12_readPerson_95 : decode cX12_readPerson 95 = .ok (.iconst 1, 1) := by decide +kernel
theorem dX12_readPerson_96 : decode cX12_readPerson 96 = .ok (.iadd, 1) := by decide +kernel
theorem dX12_readPerson_97 : decode cX12_readPerson 97 = .ok (.iastore, 1) := by decide +kernel
theorem dX12_readPerson_98 : decode cX12_readPerson 98 = .ok (.iconst 1, 1) := by decide +kernel
theorem dX12_readPerson_99 : decode cX12_readPerson 99 = .ok (.ireturn, 1) := by decide +kernel
theorem dX12_readPlate_0 : decode cX12_readPlate 0 = .ok (.aload_n 0, 1) := by decide +kernel
theorem dX12_readPlate_1 : decode cX12_readPlate 1 = .ok (.invokevirtual 156, 3) := by decide +kernel
theorem dX12_readPlate_4 : decode cX12_readPlate 4 = .ok (.aload_n 0, 1) := by decide +kernel
theorem dX12_readPlate_5 : decode cX12_readPlate 5 = .ok (.iconst 0, 1) := by decide +kernel
theorem dX12_readPlate_6 : decode cX12_readPlate 6 = .ok (.aload_n 0, 1) := by decide +kernel
theorem dX12_readPlate_7 : decode cX12_readPlate 7 = .ok (.getfield 16, 3) := by decide +kernel
theorem dX12_readPlate_10 : decode cX12_readPlate 10 = .ok (.iconst 0, 1) := by decide +kernel
theorem dX12_readPlate_11 : decode cX12_readPlate 11 = .ok (.iaload, 1) := by decide +kernel
theorem dX12_readPlate_12 : decode cX12_readPlate 12 = .ok (.invokevirtual 194, 3) := by decide +kernel
theorem dX12_readPlate_15 : decode cX12_readPlate 15 = .ok (.ifCond .ne 5, 3) := by decide +kernel
theorem dX12_readPlate_18 : decode cX12_readPlate 18 = .ok (.iconst 0, 1) := by decide +kernel
theorem dX12_readPlate_19 : decode cX12_readPlate 19 = .ok (.ireturn, 1) := by decide +kernel
theorem dX12_readPlate_20 : decode cX12_readPlate 20 = .ok (.bipush 30, 2) := by decide +kernel
theorem dX12_readPlate_22 : decode cX12_readPlate 22 = .ok (.bipush 6, 2) := by decide +kernel
theorem dX12_readPlate_24 : decode cX12_readPlate 24 = .ok (.aload_n 0, 1) := by decide +kernel
theorem dX12_readPlate_25 : decode cX12_readPlate 25 = .ok (.getfield 153, 3) := by decide +kernel
theorem dX12_readPlate_28 : decode cX12_readPlate 28 = .ok (.imul, 1) := by decide +kernel
theorem dX12_readPlate_29 : decode cX12_readPlate 29 = .ok (.iadd, 1) := by decide +kernel
theorem dX12_readPlate_30 : decode cX12_readPlate 30 = .ok (.istore_n 1, 1) := by decide +kernel
theorem dX12_readPlate_31 : decode cX12_readPlate 31 = .ok (.aload_n 0, 1) := by decide +kernel
theorem dX12_readPlate_32 : decode cX12_readPlate 32 = .ok (.bipush 7, 2) := by decide +kernel
theorem dX12_readPlate_34 : decode cX12_readPlate 34 = .ok (.aload_n 0, 1) := by decide +kernel
theorem dX12_readPlate_35 : decode cX12_readPlate 35 = .ok (.getfield 16, 3) := by decide +kernel
theorem dX12_readPlate_38 : decode cX12_readPlate 38 = .ok (.iconst 1, 1) := by decide +kernel
theorem dX12_readPlate_39 : decode cX12_readPlate 39 = .ok (.iaload, 1) := by decide +kernel
theorem dX12_readPlate_40 : decode cX12_readPlate 40 = .ok (.invokevirtual 174, 3) := by decide +kernel
theorem dX12_readPlate_43 : decode cX12_readPlate 43 = .ok (.ifCond .ne 5, 3) := by decide +kernel
theorem dX12_readPlate_46 : decode cX12_readPlate 46 = .ok (.iconst 0, 1) := by decide +kernel
theorem dX12_readPlate_47 : decode cX12_readPlate 47 = .ok (.ireturn, 1) := by decide +kernel
theorem dX12_readPlate_48 : decode cX12_readPlate 48 = .ok (.iload_n 1, 1) := by decide +kernel
theorem dX12_readPlate_49 : decode cX12_readPlate 49 = .ok (.aload_n 0, 1) := by decide +kernel
theorem dX12_readPlate_50 : decode cX12_readPlate 50 = .ok (.getfield 153, 3) := by decide +kernel
theorem dX12_readPlate_53 : decode cX12_readPlate 53 = .ok (.iadd, 1) := by decide +kernel
theorem dX12_readPlate_54 : decode cX12_readPlate 54 = .ok (.istore_n 1, 1) := by decide +kernel
theorem dX12_readPlate_55 : decode cX12_readPlate 55 = .ok (.aload_n 0, 1) := by decide +kernel
theorem dX12_readPlate_56 : decode cX12_readPlate 56 = .ok (.getfield 16, 3) := by decide +kernel
theorem dX12_readPlate_59 : decode cX12_readPlate 59 = .ok (.iload_n 1, 1) := by decide +kernel
theorem dX12_readPlate_60 : decode cX12_readPlate 60 = .ok (.iaload, 1) := by decide +kernel
theorem dX12_readPlate_61 : decode cX12_readPlate 61 = .ok (.ifCond .le 9, 3) := by decide +kernel
theorem dX12_readPlate_64 : decode cX12_readPlate 64 = .ok (.aload_n 0, 1) := by decide +kernel
theorem dX12_readPlate_65 : decode cX12_readPlate 65 = .ok (.iconst 3, 1) := by decide +kernel
theorem dX12_readPlate_66 : decode cX12_readPlate 66 = .ok (.invokevirtual 146, 3) := by decide +kernel
theorem dX12_readPlate_69 : decode cX12_readPlate 69 = .ok (.ireturn, 1) := by decide +kernel
theorem dX12_readPlate_70 : decode cX12_readPlate 70 = .ok (.aload_n 0, 1) := by decide +kernel
theorem dX12_readPlate_71 : decode cX12_readPlate 71 = .ok (.invokevirtual 156, 3) := by decide +kernel
theorem dX12_readPlate_74 : decode cX12_readPlate 74 = .ok (.aload_n 0, 1) := by decide +kernel
theorem dX12_readPlate_75 : decode cX12_readPlate 75 = .ok (.iload_n 1, 1) := by decide +kernel
theorem dX12_readPlate_76 : decode cX12_readPlate 76 = .ok (.aload_n 0, 1) := by decide +kernel
theorem dX12_readPlate_77 : decode cX12_readPlate 77 = .ok (.iconst 1, 1) := by decide +kernel
theorem dX12_readPlate_78 : decode cX12_readPlate 78 = .ok (.bipush 40, 2) := by decide +kernel
theorem dX12_readPlate_80 : decode cX12_readPlate 80 = .ok (.invokevirtual 184, 3) := by decide +kernel
theorem dX12_readPlate_83 : decode cX12_readPlate 83 = .ok (.invokevirtual 187, 3) := by decide +kernel
theorem dX12_readPlate_86 : decode cX12_readPlate 86 = .ok (.ireturn, 1) := by decide +kernel
theorem dX12_startSo_0 : decode cX12_startSo 0 = .ok (.bipush 72, 2) := by decide +kernel
theorem dX12_startSo_2 : decode cX12_startSo 2 = .ok (.istore_n 1, 1) := by decide +kernel
theorem dX12_startSo_3 : decode cX12_startSo 3 = .ok (.iload_n 1, 1) := by decide +kernel
theorem dX12_startSo_4 : decode cX12_startSo 4 = .ok (.sipush 389, 3) := by decide +kernel
theorem dX12_startSo_7 : decode cX12_startSo 7 = .ok (.if_icmp .ge 16, 3) := by decide +kernel
theorem dX12_startSo_10 : decode cX12_startSo 10 = .ok (.aload_n 0, 1) := by decide +kernel
theorem dX12_startSo_11 : decode cX12_startSo 11 = .ok (.getfield 13, 3) := by decide +kernel
theorem dX12_startSo_14 : decode cX12_startSo 14 = .ok (.iload_n 1, 1) := by decide +kernel
theorem dX12_startSo_15 : decode cX12_startSo 15 = .ok (.iconst 0, 1) := by decide +kernel
theorem dX12_startSo_16 : decode cX12_startSo 16 = .ok (.iastore, 1) := by decide +kernel
theorem dX12_startSo_17 : decode cX12_startSo 17 = .ok (.iinc 1 1, 3) := by decide +kernel
theorem dX12_startSo_20 : decode cX12_startSo 20 = .ok (.goto (-17), 3) := by decide +kernel
theorem dX12_startSo_23 : decode cX12_startSo 23 = .ok (.iconst 0, 1) := by decide +kernel
theorem dX12_startSo_24 : decode cX12_startSo 24 = .ok (.istore_n 1, 1) := by decide +kernel
theorem dX12_startSo_25 : decode cX12_startSo 25 = .ok (.iload_n 1, 1) := by decide +kernel
theorem dX12_startSo_26 : decode cX12_startSo 26 = .ok (.bipush 6, 2) := by decide +kernel
theorem dX12_startSo_28 : decode cX12_startSo 28 = .ok (.if_icmp .ge 27, 3) := by decide +kernel
theorem dX12_startSo_31 : decode cX12_startSo 31 = .ok (.aload_n 0, 1) := by decide +kernel
theorem dX12_startSo_32 : decode cX12_startSo 32 = .ok (.getfield 13, 3) := by decide +kernel
theorem dX12_startSo_35 : decode cX12_startSo 35 = .ok (.bipush 78, 2) := by decide +kernel
theorem dX12_startSo_37 : decode cX12_startSo 37 = .ok (.iload_n 1, 1) := by decide +kernel
theorem dX12_startSo_38 : decode cX12_startSo 38 = .ok (.iadd, 1) := by decide +kernel
theorem dX12_startSo_39 : decode cX12_startSo 39 = .ok (.aload_n 0, 1) := by decide +kernel
theorem dX12_startSo_40 : decode cX12_startSo 40 = .ok (.getfield 13, 3) := by decide +kernel
theorem dX12_startSo_43 : decode cX12_startSo 43 = .ok (.bipush 18, 2) := by decide +kernel
theorem dX12_startSo_45 : decode cX12_startSo 45 = .ok (.iload_n 1, 1) := by decide +kernel
theorem dX12_startSo_46 : decode cX12_startSo 46 = .ok (.iadd, 1) := by decide +kernel
theorem dX12_startSo_47 : decode cX12_startSo 47 = .ok (.iaload, 1) := by decide +kernel
theorem dX12_startSo_48 : decode cX12_startSo 48 = .ok (.iastore, 1) := by decide +kernel
theorem dX12_startSo_49 : decode cX12_startSo 49 = .ok (.iinc 1 1, 3) := by decide +kernel
theorem dX12_startSo_52 : decode cX12_startSo 52 = .ok (.goto (-27), 3) := by decide +kernel
theorem dX12_startSo_55 : decode cX12_startSo 55 = .ok (.iconst 0, 1) := by decide +kernel
theorem dX12_startSo_56 : decode cX12_startSo 56 = .ok (.istore_n 1, 1) := by decide +kernel
theorem dX12_startSo_57 : decode cX12_startSo 57 = .ok (.iload_n 1, 1) := by decide +kernel
theorem dX12_startSo_58 : decode cX12_startSo 58 = .ok (.bipush 42, 2) := by decide +kernel
theorem dX12_startSo_60 : decode cX12_startSo 60 = .ok (.if_icmp .ge 27, 3) := by decide +kernel
theorem dX12_startSo_63 : decode cX12_startSo 63 = .ok (.aload_n 0, 1) := by decide +kernel
theorem dX12_startSo_64 : decode cX12_startSo 64 = .ok (.getfield 13, 3) := by decide +kernel
theorem dX12_startSo_67 : decode cX12_startSo 67 = .ok (.bipush 105, 2) := by decide +kernel
theorem dX12_startSo_69 : decode cX12_startSo 69 = .ok (.iload_n 1, 1) := by decide +kernel
theorem dX12_startSo_70 : decode cX12_startSo 70 = .ok (.iadd, 1) := by decide +kernel
theorem dX12_startSo_71 : decode cX12_startSo 71 = .ok (.aload_n 0, 1) := by decide +kernel
theorem dX12_startSo_72 : decode cX12_startSo 72 = .ok (.getfield 13, 3) := by decide +kernel
theorem dX12_startSo_75 : decode cX12_startSo 75 = .ok (.bipush 30, 2) := by decide +kernel
theorem dX12_startSo_77 : decode cX12_startSo 77 = .ok (.iload_n 1, 1) := by decide +kernel
theorem dX12_startSo_78 : decode cX12_startSo 78 = .ok (.iadd, 1) := by decide +kernel
theorem dX12_startSo_79 : decode cX12_startSo 79 = .ok (.iaload, 1) := by decide +kernel
theorem dX12_startSo_80 : decode cX12_startSo 80 = .ok (.iastore, 1) := by decide +kernel
theorem dX12_startSo_81 : decode cX12_startSo 81 = .ok (.iinc 1 1, 3) := by decide +kernel
theorem dX12_startSo_84 : decode cX12_startSo 84 = .ok (.goto (-27), 3) := by decide +kernel
theorem dX12_startSo_87 : decode cX12_startSo 87 = .ok (.return_, 1) := by decide +kernel
theorem rc_78 : Rg 78 78 78 := ⟨by decide, by decide⟩
theorem rc_389 : Rg 389 389 389 := ⟨by decide, by decide⟩
set_option maxRecDepth 100000 in
set_option maxHeartbeats 8000000 in
theorem c_X12_readNumber_0_9 {l : Launch} {D : va_G} {cy : Nat → ClassId} {L : List Nat} {κ ln : Nat → Nat} {R : Nat → Nat → Option Nat} {I : Nat → Nat → Int32} {J : Nat → Nat → Int64} {ow : Nat → Nat × Nat} (W9 : ∀ a ∈ L, Shp L κ ln R ow a) {x : Nat} (hLx : x ∈ L) (hkx : κ x = 12) (hU : Iw L κ R ow I) : CtI l yX12_readNumber cX12_readNumber 3 (some .boolean) { frames := 2, cells := 0, slots := 0, locals := 45 } D cy L κ ln R I J [.ref x, .int 0, .int 9] (fun r I2 J2 => Iw L κ R ow I2 ∧ Fq L κ ow [1205, 1206, 1207, 1208, 1209, 1210, 1211, 1213] I I2 ∧ Fq L κ ow [1212] J J2 ∧ Rg 0 1 r ∧ (Pg_ x I I2 ∧ (¬ r = 0 → Ps_ x I I2)) ∧ (¬ r = 0 → Rg 0 9 (I2 x 13))) := by
  refine CtI.of (by decide +kernel) (Nat.le_of_ble_eq_true rfl) ?_
  intro p e s m below meth c B K
  have C := B.1
  have hF : Fq L κ ow [1205, 1206, 1207, 1208, 1209, 1210, 1211, 1213] I I := fq_rf
  have hG : Fq L κ ow [1212] J J := fq_rf
  refine g_lo (is := [0, 1, 2]) (lo2 := [(0, .ref x), (1, .int 0), (2, .int 9)]) rfl ?_
  refine g_aload_n C 0 dX12_readNumber_0 rfl rfl ?_
  obtain ⟨x_1, hx_1, rx_1⟩ := ex_getw (I := I) (a := x) (j := 7) (lo := 0) (hi := 4) hU.1 hLx (ro_o hkx (by decide)) rfl
  refine g_getI C K hLx hkx f_12_104 (v := x_1) hx_1 dX12_readNumber_1 ?_
  refine g_iconst C (v := 3) dX12_readNumber_4 (by decide) ?_
  refine g_icmp_eq C (tgt := 14) dX12_readNumber_5 (by decide) (fun h_2 => ?_) (fun h_2 => ?_)
  · skip
    have r_3 := (⟨(eq_rg (h_2) rc_3).1, (eq_rg (h_2) rc_3).2⟩ : Rg 3 3 x_1)
    refine g_aload_n C 0 dX12_readNumber_14 rfl rfl ?_
    obtain ⟨x_4, hx_4, rx_4⟩ := ex_getw (I := I) (a := x) (j := 8) (lo := (-2147483648)) (hi := 2147483647) hU.1 hLx (ro_o hkx (by decide)) rfl
    refine g_getI C K hLx hkx f_12_121 (v := x_4) hx_4 dX12_readNumber_15 ?_
    refine g_iload_n C 1 dX12_readNumber_18 rfl rfl ?_
    refine g_iload_n C 2 dX12_readNumber_19 rfl rfl ?_
    refine g_callSI C K (c_X12_isIn W9 x_4 0 9 (rg_w rc_0 (by decide) (by decide)) (rg_w rc_9 (by decide) (by decide)) hU) s_12_149 rfl ⟨rfl, rfl⟩ ⟨Nat.le_of_ble_eq_true rfl, Nat.le_of_ble_eq_true rfl⟩ (Nat.le_of_ble_eq_true rfl) ⟨Nat.le_of_ble_eq_true rfl, Nat.le_of_ble_eq_true rfl⟩ dX12_readNumber_20 rfl (st := []) (fun x_5 I_6 J_7 h_8 => ?_)
    obtain ⟨rfl, rfl, rx_5, ex_5⟩ := h_8
    refine g_if_ne C (tgt := 32) dX12_readNumber_23 (by decide) (fun h_9 => ?_) (fun h_9 => ?_)
    · skip
      have n_10 : ¬ x_5 = 0 := h_9
      have r_11 := ne_lo (lo := 1) n_10 rx_5 rc_0 rfl (by decide)
      have r_12 := le_r (((ex_5.1) n_10)) rc_0 rx_4
      have r_13 := le_l (((ex_5.2) n_10)) r_12 rc_9
      refine g_aload_n C 0 dX12_readNumber_32 rfl rfl ?_
      refine g_aload_n C 0 dX12_readNumber_33 rfl rfl ?_
      refine g_getI C K hLx hkx f_12_121 (v := x_4) hx_4 dX12_readNumber_34 ?_
      refine h_putI C K hLx hkx f_12_153 p_12_13 dX12_readNumber_37 (fun I_14 hI_14 => ?_)
      have hU_15 := iw_put W9 hU hI_14 (ro_o hkx (by decide)) (lo := (-2147483648)) (hi := 2147483647) (rfl) (rg_all _) rfl
      have hF_16 := fq_puto hF hI_14 hkx (by decide) (by decide)
      refine g_aload_n C 0 dX12_readNumber_40 rfl rfl ?_
      refine g_callVV C K (c_X12_go W9 hLx hkx   hU_15) hLx hkx (by decide) rfl v_12_156 rfl ⟨rfl, rfl⟩ ⟨Nat.le_of_ble_eq_true rfl, Nat.le_of_ble_eq_true rfl⟩ (Nat.le_of_ble_eq_true rfl) ⟨Nat.le_of_ble_eq_true rfl, Nat.le_of_ble_eq_true rfl⟩ dX12_readNumber_41 rfl (st := []) (fun I_18 J_19 h_20 => ?_)
      obtain ⟨hUI_18, hFI_18, hGJ_19, ex_17⟩ := h_20
      have hF_21 := fq_tr hF_16 hFI_18 (by decide)
      have hG_22 := fq_tr hG hGJ_19 (by decide)
      refine g_iconst C (v := 1) dX12_readNumber_44 (by decide) ?_
      exact g_zret (ty := .boolean) (r := 1) B K rfl (rfl) ⟨hUI_18, hF_21, hG_22, rg_w rc_1 (by decide) (by decide), ⟨(pg_s (ps_t2 (pg_u pg_rf hI_14 (Or.inr (by decide)) (Or.inr (by decide))) ex_17)), fun _ => (ps_t2 (pg_u pg_rf hI_14 (Or.inr (by decide)) (Or.inr (by decide))) ex_17)⟩, (fun _ => eq_rg (fq_at hFI_18 hLx hkx (by decide) (by decide) (kp_s hI_14)) (r_13))⟩ dX12_readNumber_45
    · skip
      have r_23 := (⟨(rx_5).1, (eq_rg (h_9) rc_0).2⟩ : Rg 0 0 x_5)
      refine g_aload_n C 0 dX12_readNumber_26 rfl rfl ?_
      refine g_iconst C (v := 2) dX12_readNumber_27 (by decide) ?_
      refine g_callVI C K (c_X12_bad W9 hLx hkx 2 (rg_w rc_2 (by decide) (by decide)) hU) hLx hkx (by decide) rfl v_12_146 rfl ⟨rfl, rfl⟩ ⟨Nat.le_of_ble_eq_true rfl, Nat.le_of_ble_eq_true rfl⟩ (Nat.le_of_ble_eq_true rfl) ⟨Nat.le_of_ble_eq_true rfl, Nat.le_of_ble_eq_true rfl⟩ dX12_readNumber_28 rfl (st := []) (fun x_24 I_25 J_26 h_27 => ?_)
      obtain ⟨hUI_25, hFI_25, hGJ_26, rx_24⟩ := h_27
      have hF_28 := fq_tr hF hFI_25 (by decide)
      have hG_29 := fq_tr hG hGJ_26 (by decide)
      exact g_zret (ty := .boolean) (r := x_24) B K rfl (nar_z (rg_w rx_24 (by decide) (by decide))) ⟨hUI_25, hF_28, hG_29, rg_w rx_24 (by decide) (by decide), ⟨(pg_fq pg_rf hFI_25 hLx hkx (by decide) (by decide)), fun q => ne_no q rx_24 rc_0⟩, (fun q => ne_no q rx_24 rc_0)⟩ dX12_readNumber_31
  · skip
    have n_30 : ¬ x_1 = 3 := h_2
    refine g_aload_n C 0 dX12_readNumber_8 rfl rfl ?_
    refine g_iconst C (v := 1) dX12_readNumber_9 (by decide) ?_
    refine g_callVI C K (c_X12_bad W9 hLx hkx 1 (rg_w rc_1 (by decide) (by decide)) hU) hLx hkx (by decide) rfl v_12_146 rfl ⟨rfl, rfl⟩ ⟨Nat.le_of_ble_eq_true rfl, Nat.le_of_ble_eq_true rfl⟩ (Nat.le_of_ble_eq_true rfl) ⟨Nat.le_of_ble_eq_true rfl, Nat.le_of_ble_eq_true rfl⟩ dX12_readNumber_10 rfl (st := []) (fun x_31 I_32 J_33 h_34 => ?_)
    obtain ⟨hUI_32, hFI_32, hGJ_33, rx_31⟩ := h_34
    have hF_35 := fq_tr hF hFI_32 (by decide)
    have hG_36 := fq_tr hG hGJ_33 (by decide)
    exact g_zret (ty := .boolean) (r := x_31) B K rfl (nar_z (rg_w rx_31 (by decide) (by decide))) ⟨hUI_32, hF_35, hG_36, rg_w rx_31 (by decide) (by decide), ⟨(pg_fq pg_rf hFI_32 hLx hkx (by decide) (by decide)), fun q => ne_no q rx_31 rc_0⟩, (fun q => ne_no q rx_31 rc_0)⟩ dX12_readNumber_13
set_option maxRecDepth 100000 in
set_option maxHeartbeats 8000000 in
theorem c_X12_put_11_17 {l : Launch} {D : va_G} {cy : Nat → ClassId} {L : List Nat} {κ ln : Nat → Nat} {R : Nat → Nat → Option Nat} {I : Nat → Nat → Int32} {J : Nat → Nat → Int64} {ow : Nat → Nat × Nat} (W9 : ∀ a ∈ L, Shp L κ ln R ow a) {x : Nat} (hLx : x ∈ L) (hkx : κ x = 12) (a0 : Int32) (a1 : Int32) (ra0 : Rg 11 17 a0) (ra1 : Rg 0 1 a1) (hU : Iw L κ R ow I) : CtI l yX12_put cX12_put 3 (some .boolean) { frames := 0, cells := 0, slots := 0, locals := 0 } D cy L κ ln R I J [.ref x, .int a0, .int a1] (fun r I2 J2 => Iw L κ R ow I2 ∧ Fq L κ ow [83500] I I2 ∧ Fq L κ ow [] J J2 ∧ Rg 0 1 r ∧ r = a1 ∧ (∀ a, R x 15 = some a → I2 a 0 = I a 0 ∧ I2 a 1 = I a 1)) := by
  refine CtI.of (by decide +kernel) (Nat.le_of_ble_eq_true rfl) ?_
  intro p e s m below meth c B K
  have C := B.1
  have hF : Fq L κ ow [83500] I I := fq_rf
  have hG : Fq L κ ow [] J J := fq_rf
  obtain ⟨b_1, hb_1, hb_1L, hb_1k, hb_1n, hb_1o⟩ := shp_a (W9 x hLx) hkx 15 14 72 rfl (by decide)
  refine g_lo (is := [0, 1, 2]) (lo2 := [(0, .ref x), (1, .int a0), (2, .int a1)]) rfl ?_
  refine g_iload_n C 2 dX12_put_0 rfl rfl ?_
  refine g_if_eq C (tgt := 14) dX12_put_1 (by decide) (fun h_2 => ?_) (fun h_2 => ?_)
  · skip
    have r_3 := (⟨(ra1).1, (eq_rg (h_2) rc_0).2⟩ : Rg 0 0 a1)
    refine g_iload_n C 2 dX12_put_14 rfl rfl ?_
    exact g_zret (ty := .boolean) (r := a1) B K rfl (nar_z (rg_w r_3 (by decide) (by decide))) ⟨hU, hF, hG, rg_w r_3 (by decide) (by decide), rfl, (fun a ha => ⟨rfl, rfl⟩)⟩ dX12_put_15
  · skip
    have n_4 : ¬ a1 = 0 := h_2
    have r_5 := ne_lo (lo := 1) n_4 ra1 rc_0 rfl (by decide)
    refine g_aload_n C 0 dX12_put_4 rfl rfl ?_
    refine g_getR C K hLx hkx f_12_16 hb_1 dX12_put_5 ?_
    refine g_iload_n C 1 dX12_put_8 rfl rfl ?_
    refine g_aload_n C 0 dX12_put_9 rfl rfl ?_
    obtain ⟨x_6, hx_6, rx_6⟩ := ex_getw (I := I) (a := x) (j := 13) (lo := (-2147483648)) (hi := 2147483647) hU.1 hLx (ro_o hkx (by decide)) rfl
    refine g_getI C K hLx hkx f_12_153 (v := x_6) hx_6 dX12_put_10 ?_
    refine h_iast C K hb_1L hb_1k (a0.toNatClampNeg) (rfl) (ix_0 ra0 (by decide)) (ix_lt ra0 (by decide) hb_1n (by decide)) dX12_put_13 (fun I_7 hI_7 => ?_)
    have hU_8 := iw_put W9 hU hI_7 (ro_a hb_1k (by decide) hb_1o hkx rfl) (lo := (-2147483648)) (hi := 2147483647) (bn_835.trans (zq_11 (ix_k (lo := 11) (hi := 17) ra0 (by decide) (by decide) (by decide)))) (rx_6) rfl
    have hF_9 := fq_puta hF hI_7 (ro_a hb_1k (by decide) hb_1o hkx rfl) (by decide) (by decide)
    refine g_iload_n C 2 dX12_put_14 rfl rfl ?_
    exact g_zret (ty := .boolean) (r := a1) B K rfl (nar_z (rg_w r_5 (by decide) (by decide))) ⟨hU_8, hF_9, hG, rg_w r_5 (by decide) (by decide), rfl, (fun a ha => by rw [hb_1] at ha; cases ha; exact ⟨kp_j hI_7 (ix_ne ra0 (by decide)) rfl, kp_j hI_7 (ix_ne ra0 (by decide)) rfl⟩)⟩ dX12_put_15
set_option maxRecDepth 100000 in
set_option maxHeartbeats 8000000 in
theorem c_X12_put_4_10 {l : Launch} {D : va_G} {cy : Nat → ClassId} {L : List Nat} {κ ln : Nat → Nat} {R : Nat → Nat → Option Nat} {I : Nat → Nat → Int32} {J : Nat → Nat → Int64} {ow : Nat → Nat × Nat} (W9 : ∀ a ∈ L, Shp L κ ln R ow a) {x : Nat} (hLx : x ∈ L) (hkx : κ x = 12) (a0 : Int32) (a1 : Int32) (ra0 : Rg 4 10 a0) (ra1 : Rg 0 1 a1) (hU : Iw L κ R ow I) (hg : ¬ a1 = 0 → Rg 0 20 (I x 13)) : CtI l yX12_put cX12_put 3 (some .boolean) { frames := 0, cells := 0, slots := 0, locals := 0 } D cy L κ ln R I J [.ref x, .int a0, .int a1] (fun r I2 J2 => Iw L κ R ow I2 ∧ Fq L κ ow [83500] I I2 ∧ Fq L κ ow [] J J2 ∧ Rg 0 1 r ∧ r = a1 ∧ (∀ a, R x 15 = some a → I2 a 0 = I a 0 ∧ I2 a 1 = I a 1)) := by
  refine CtI.of (by decide +kernel) (Nat.le_of_ble_eq_true rfl) ?_
  intro p e s m below meth c B K
  have C := B.1
  have hF : Fq L κ ow [83500] I I := fq_rf
  have hG : Fq L κ ow [] J J := fq_rf
  obtain ⟨b_1, hb_1, hb_1L, hb_1k, hb_1n, hb_1o⟩ := shp_a (W9 x hLx) hkx 15 14 72 rfl (by decide)
  refine g_lo (is := [0, 1, 2]) (lo2 := [(0, .ref x), (1, .int a0), (2, .int a1)]) rfl ?_
  refine g_iload_n C 2 dX12_put_0 rfl rfl ?_
  refine g_if_eq C (tgt := 14) dX12_put_1 (by decide) (fun h_2 => ?_) (fun h_2 => ?_)
  · skip
    have r_3 := (⟨(ra1).1, (eq_rg (h_2) rc_0).2⟩ : Rg 0 0 a1)
    refine g_iload_n C 2 dX12_put_14 rfl rfl ?_
    exact g_zret (ty := .boolean) (r := a1) B K rfl (nar_z (rg_w r_3 (by decide) (by decide))) ⟨hU, hF, hG, rg_w r_3 (by decide) (by decide), rfl, (fun a ha => ⟨rfl, rfl⟩)⟩ dX12_put_15
  · skip
    have n_4 : ¬ a1 = 0 := h_2
    have r_5 := ne_lo (lo := 1) n_4 ra1 rc_0 rfl (by decide)
    obtain ⟨x_6, hx_6, rx_6⟩ := ex_getw (I := I) (a := x) (j := 13) (lo := (-2147483648)) (hi := 2147483647) hU.1 hLx (ro_o hkx (by decide)) rfl
    have r_7 := rg_i rx_6 (eq_rg hx_6.symm (hg n_4)) (lo := 0) (hi := 20) (by decide) (by decide)
    refine g_aload_n C 0 dX12_put_4 rfl rfl ?_
    refine g_getR C K hLx hkx f_12_16 hb_1 dX12_put_5 ?_
    refine g_iload_n C 1 dX12_put_8 rfl rfl ?_
    refine g_aload_n C 0 dX12_put_9 rfl rfl ?_
    refine g_getI C K hLx hkx f_12_153 (v := x_6) hx_6 dX12_put_10 ?_
    refine h_iast C K hb_1L hb_1k (a0.toNatClampNeg) (rfl) (ix_0 ra0 (by decide)) (ix_lt ra0 (by decide) hb_1n (by decide)) dX12_put_13 (fun I_8 hI_8 => ?_)
    have hU_9 := iw_put W9 hU hI_8 (ro_a hb_1k (by decide) hb_1o hkx rfl) (lo := 0) (hi := 20) (bn_835.trans (zq_4 (ix_k (lo := 4) (hi := 10) ra0 (by decide) (by decide) (by decide)))) (r_7) rfl
    have hF_10 := fq_puta hF hI_8 (ro_a hb_1k (by decide) hb_1o hkx rfl) (by decide) (by decide)
    refine g_iload_n C 2 dX12_put_14 rfl rfl ?_
    exact g_zret (ty := .boolean) (r := a1) B K rfl (nar_z (rg_w r_5 (by decide) (by decide))) ⟨hU_9, hF_10, hG, rg_w r_5 (by decide) (by decide), rfl, (fun a ha => by rw [hb_1] at ha; cases ha; exact ⟨kp_j hI_8 (ix_ne ra0 (by decide)) rfl, kp_j hI_8 (ix_ne ra0 (by decide)) rfl⟩)⟩ dX12_put_15
set_option maxRecDepth 100000 in
set_option maxHeartbeats 8000000 in
theorem c_X12_readFirst_0_7 {l : Launch} {D : va_G} {cy : Nat → ClassId} {L : List Nat} {κ ln : Nat → Nat} {R : Nat → Nat → Option Nat} {I : Nat → Nat → Int32} {J : Nat → Nat → Int64} {ow : Nat → Nat × Nat} (W9 : ∀ a ∈ L, Shp L κ ln R ow a) {x : Nat} (hLx : x ∈ L) (hkx : κ x = 12) (hU : Iw L κ R ow I) : CtI l yX12_readFirst cX12_readFirst 3 (some .boolean) { frames := 2, cells := 0, slots := 0, locals := 45 } D cy L κ ln R I J [.ref x, .int 0, .int 7] (fun r I2 J2 => Iw L κ R ow I2 ∧ Fq L κ ow [1205, 1206, 1207, 1208, 1209, 1210, 1211] I I2 ∧ Fq L κ ow [1212] J J2 ∧ Rg 0 1 r ∧ (Pg_ x I I2 ∧ (¬ r = 0 → Ps_ x I I2)) ∧ (¬ r = 0 → ∀ a, R x 15 = some a → Rg 0 6 (I2 a 0))) := by
  refine CtI.of (by decide +kernel) (Nat.le_of_ble_eq_true rfl) ?_
  intro p e s m below meth c B K
  have C := B.1
  have hF : Fq L κ ow [1205, 1206, 1207, 1208, 1209, 1210, 1211] I I := fq_rf
  have hG : Fq L κ ow [1212] J J := fq_rf
  obtain ⟨b_1, hb_1, hb_1L, hb_1k, hb_1n, hb_1o⟩ := shp_a (W9 x hLx) hkx 15 14 72 rfl (by decide)
  refine g_lo (is := [0, 1, 2]) (lo2 := [(0, .ref x), (1, .int 0), (2, .int 7)]) rfl ?_
  refine g_aload_n C 0 dX12_readFirst_0 rfl rfl ?_
  refine g_getR C K hLx hkx f_12_16 hb_1 dX12_readFirst_1 ?_
  refine g_iload_n C 1 dX12_readFirst_4 rfl rfl ?_
  obtain ⟨x_2, hx_2, rx_2⟩ := ex_getw (I := I) (a := b_1) (j := 0) (lo := 0) (hi := 7) hU.1 hb_1L (ro_a hb_1k (by decide) hb_1o hkx rfl) (by decide)
  refine h_iald C K hb_1L hb_1k (v := x_2) (0) (by decide) (by decide) (by rw [hb_1n]; decide) hx_2 dX12_readFirst_5 ?_
  refine g_iload_n C 2 dX12_readFirst_6 rfl rfl ?_
  refine g_icmp_ne C (tgt := 16) dX12_readFirst_7 (by decide) (fun h_3 => ?_) (fun h_3 => ?_)
  · skip
    have n_4 : ¬ x_2 = 7 := h_3
    have r_5 := ne_hi (hi := 6) n_4 rx_2 rc_7 rfl (by decide)
    refine g_aload_n C 0 dX12_readFirst_16 rfl rfl ?_
    refine g_callVV C K (c_X12_go W9 hLx hkx   hU) hLx hkx (by decide) rfl v_12_156 rfl ⟨rfl, rfl⟩ ⟨Nat.le_of_ble_eq_true rfl, Nat.le_of_ble_eq_true rfl⟩ (Nat.le_of_ble_eq_true rfl) ⟨Nat.le_of_ble_eq_true rfl, Nat.le_of_ble_eq_true rfl⟩ dX12_readFirst_17 rfl (st := []) (fun I_7 J_8 h_9 => ?_)
    obtain ⟨hUI_7, hFI_7, hGJ_8, ex_6⟩ := h_9
    have hF_10 := fq_tr hF hFI_7 (by decide)
    have hG_11 := fq_tr hG hGJ_8 (by decide)
    refine g_iconst C (v := 1) dX12_readFirst_20 (by decide) ?_
    exact g_zret (ty := .boolean) (r := 1) B K rfl (rfl) ⟨hUI_7, hF_10, hG_11, rg_w rc_1 (by decide) (by decide), ⟨(pg_s (ps_t2 pg_rf ex_6)), fun _ => (ps_t2 pg_rf ex_6)⟩, (fun _ => fun a ha => by rw [hb_1] at ha; cases ha; exact eq_rg (fq_ar hFI_7 hb_1L (ro_a hb_1k (by decide) hb_1o hkx rfl) (by decide) (by decide) hx_2) (r_5))⟩ dX12_readFirst_21
  · skip
    have r_12 := (⟨(eq_rg (h_3) rc_7).1, (rx_2).2⟩ : Rg 7 7 x_2)
    refine g_aload_n C 0 dX12_readFirst_10 rfl rfl ?_
    refine g_iconst C (v := 4) dX12_readFirst_11 (by decide) ?_
    refine g_callVI C K (c_X12_bad W9 hLx hkx 4 (rg_w rc_4 (by decide) (by decide)) hU) hLx hkx (by decide) rfl v_12_146 rfl ⟨rfl, rfl⟩ ⟨Nat.le_of_ble_eq_true rfl, Nat.le_of_ble_eq_true rfl⟩ (Nat.le_of_ble_eq_true rfl) ⟨Nat.le_of_ble_eq_true rfl, Nat.le_of_ble_eq_true rfl⟩ dX12_readFirst_12 rfl (st := []) (fun x_13 I_14 J_15 h_16 => ?_)
    obtain ⟨hUI_14, hFI_14, hGJ_15, rx_13⟩ := h_16
    have hF_17 := fq_tr hF hFI_14 (by decide)
    have hG_18 := fq_tr hG hGJ_15 (by decide)
    exact g_zret (ty := .boolean) (r := x_13) B K rfl (nar_z (rg_w rx_13 (by decide) (by decide))) ⟨hUI_14, hF_17, hG_18, rg_w rx_13 (by decide) (by decide), ⟨(pg_fq pg_rf hFI_14 hLx hkx (by decide) (by decide)), fun q => ne_no q rx_13 rc_0⟩, (fun q => ne_no q rx_13 rc_0)⟩ dX12_readFirst_15
set_option maxRecDepth 100000 in
set_option maxHeartbeats 8000000 in
theorem c_X12_readNumber_0_20 {l : Launch} {D : va_G} {cy : Nat → ClassId} {L : List Nat} {κ ln : Nat → Nat} {R : Nat → Nat → Option Nat} {I : Nat → Nat → Int32} {J : Nat → Nat → Int64} {ow : Nat → Nat × Nat} (W9 : ∀ a ∈ L, Shp L κ ln R ow a) {x : Nat} (hLx : x ∈ L) (hkx : κ x = 12) (hU : Iw L κ R ow I) : CtI l yX12_readNumber cX12_readNumber 3 (some .boolean) { frames := 2, cells := 0, slots := 0, locals := 45 } D cy L κ ln R I J [.ref x, .int 0, .int 20] (fun r I2 J2 => Iw L κ R ow I2 ∧ Fq L κ ow [1205, 1206, 1207, 1208, 1209, 1210, 1211, 1213] I I2 ∧ Fq L κ ow [1212] J J2 ∧ Rg 0 1 r ∧ (Pg_ x I I2 ∧ (¬ r = 0 → Ps_ x I I2)) ∧ (¬ r = 0 → Rg 0 20 (I2 x 13))) := by
  refine CtI.of (by decide +kernel) (Nat.le_of_ble_eq_true rfl) ?_
  intro p e s m below meth c B K
  have C := B.1
  have hF : Fq L κ ow [1205, 1206, 1207, 1208, 1209, 1210, 1211, 1213] I I := fq_rf
  have hG : Fq L κ ow [1212] J J := fq_rf
  refine g_lo (is := [0, 1, 2]) (lo2 := [(0, .ref x), (1, .int 0), (2, .int 20)]) rfl ?_
  refine g_aload_n C 0 dX12_readNumber_0 rfl rfl ?_
  obtain ⟨x_1, hx_1, rx_1⟩ := ex_getw (I := I) (a := x) (j := 7) (lo := 0) (hi := 4) hU.1 hLx (ro_o hkx (by decide)) rfl
  refine g_getI C K hLx hkx f_12_104 (v := x_1) hx_1 dX12_readNumber_1 ?_
  refine g_iconst C (v := 3) dX12_readNumber_4 (by decide) ?_
  refine g_icmp_eq C (tgt := 14) dX12_readNumber_5 (by decide) (fun h_2 => ?_) (fun h_2 => ?_)
  · skip
    have r_3 := (⟨(eq_rg (h_2) rc_3).1, (eq_rg (h_2) rc_3).2⟩ : Rg 3 3 x_1)
    refine g_aload_n C 0 dX12_readNumber_14 rfl rfl ?_
    obtain ⟨x_4, hx_4, rx_4⟩ := ex_getw (I := I) (a := x) (j := 8) (lo := (-2147483648)) (hi := 2147483647) hU.1 hLx (ro_o hkx (by decide)) rfl
    refine g_getI C K hLx hkx f_12_121 (v := x_4) hx_4 dX12_readNumber_15 ?_
    refine g_iload_n C 1 dX12_readNumber_18 rfl rfl ?_
    refine g_iload_n C 2 dX12_readNumber_19 rfl rfl ?_
    refine g_callSI C K (c_X12_isIn W9 x_4 0 20 (rg_w rc_0 (by decide) (by decide)) (rg_w rc_20 (by decide) (by decide)) hU) s_12_149 rfl ⟨rfl, rfl⟩ ⟨Nat.le_of_ble_eq_true rfl, Nat.le_of_ble_eq_true rfl⟩ (Nat.le_of_ble_eq_true rfl) ⟨Nat.le_of_ble_eq_true rfl, Nat.le_of_ble_eq_true rfl⟩ dX12_readNumber_20 rfl (st := []) (fun x_5 I_6 J_7 h_8 => ?_)
    obtain ⟨rfl, rfl, rx_5, ex_5⟩ := h_8
    refine g_if_ne C (tgt := 32) dX12_readNumber_23 (by decide) (fun h_9 => ?_) (fun h_9 => ?_)
    · skip
      have n_10 : ¬ x_5 = 0 := h_9
      have r_11 := ne_lo (lo := 1) n_10 rx_5 rc_0 rfl (by decide)
      have r_12 := le_r (((ex_5.1) n_10)) rc_0 rx_4
      have r_13 := le_l (((ex_5.2) n_10)) r_12 rc_20
      refine g_aload_n C 0 dX12_readNumber_32 rfl rfl ?_
      refine g_aload_n C 0 dX12_readNumber_33 rfl rfl ?_
      refine g_getI C K hLx hkx f_12_121 (v := x_4) hx_4 dX12_readNumber_34 ?_
      refine h_putI C K hLx hkx f_12_153 p_12_13 dX12_readNumber_37 (fun I_14 hI_14 => ?_)
      have hU_15 := iw_put W9 hU hI_14 (ro_o hkx (by decide)) (lo := (-2147483648)) (hi := 2147483647) (rfl) (rg_all _) rfl
      have hF_16 := fq_puto hF hI_14 hkx (by decide) (by decide)
      refine g_aload_n C 0 dX12_readNumber_40 rfl rfl ?_
      refine g_callVV C K (c_X12_go W9 hLx hkx   hU_15) hLx hkx (by decide) rfl v_12_156 rfl ⟨rfl, rfl⟩ ⟨Nat.le_of_ble_eq_true rfl, Nat.le_of_ble_eq_true rfl⟩ (Nat.le_of_ble_eq_true rfl) ⟨Nat.le_of_ble_eq_true rfl, Nat.le_of_ble_eq_true rfl⟩ dX12_readNumber_41 rfl (st := []) (fun I_18 J_19 h_20 => ?_)
      obtain ⟨hUI_18, hFI_18, hGJ_19, ex_17⟩ := h_20
      have hF_21 := fq_tr hF_16 hFI_18 (by decide)
      have hG_22 := fq_tr hG hGJ_19 (by decide)
      refine g_iconst C (v := 1) dX12_readNumber_44 (by decide) ?_
      exact g_zret (ty := .boolean) (r := 1) B K rfl (rfl) ⟨hUI_18, hF_21, hG_22, rg_w rc_1 (by decide) (by decide), ⟨(pg_s (ps_t2 (pg_u pg_rf hI_14 (Or.inr (by decide)) (Or.inr (by decide))) ex_17)), fun _ => (ps_t2 (pg_u pg_rf hI_14 (Or.inr (by decide)) (Or.inr (by decide))) ex_17)⟩, (fun _ => eq_rg (fq_at hFI_18 hLx hkx (by decide) (by decide) (kp_s hI_14)) (r_13))⟩ dX12_readNumber_45
    · skip
      have r_23 := (⟨(rx_5).1, (eq_rg (h_9) rc_0).2⟩ : Rg 0 0 x_5)
      refine g_aload_n C 0 dX12_readNumber_26 rfl rfl ?_
      refine g_iconst C (v := 2) dX12_readNumber_27 (by decide) ?_
      refine g_callVI C K (c_X12_bad W9 hLx hkx 2 (rg_w rc_2 (by decide) (by decide)) hU) hLx hkx (by decide) rfl v_12_146 rfl ⟨rfl, rfl⟩ ⟨Nat.le_of_ble_eq_true rfl, Nat.le_of_ble_eq_true rfl⟩ (Nat.le_of_ble_eq_true rfl) ⟨Nat.le_of_ble_eq_true rfl, Nat.le_of_ble_eq_true rfl⟩ dX12_readNumber_28 rfl (st := []) (fun x_24 I_25 J_26 h_27 => ?_)
      obtain ⟨hUI_25, hFI_25, hGJ_26, rx_24⟩ := h_27
      have hF_28 := fq_tr hF hFI_25 (by decide)
      have hG_29 := fq_tr hG hGJ_26 (by decide)
      exact g_zret (ty := .boolean) (r := x_24) B K rfl (nar_z (rg_w rx_24 (by decide) (by decide))) ⟨hUI_25, hF_28, hG_29, rg_w rx_24 (by decide) (by decide), ⟨(pg_fq pg_rf hFI_25 hLx hkx (by decide) (by decide)), fun q => ne_no q rx_24 rc_0⟩, (fun q => ne_no q rx_24 rc_0)⟩ dX12_readNumber_31
  · skip
    have n_30 : ¬ x_1 = 3 := h_2
    refine g_aload_n C 0 dX12_readNumber_8 rfl rfl ?_
    refine g_iconst C (v := 1) dX12_readNumber_9 (by decide) ?_
    refine g_callVI C K (c_X12_bad W9 hLx hkx 1 (rg_w rc_1 (by decide) (by decide)) hU) hLx hkx (by decide) rfl v_12_146 rfl ⟨rfl, rfl⟩ ⟨Nat.le_of_ble_eq_true rfl, Nat.le_of_ble_eq_true rfl⟩ (Nat.le_of_ble_eq_true rfl) ⟨Nat.le_of_ble_eq_true rfl, Nat.le_of_ble_eq_true rfl⟩ dX12_readNumber_10 rfl (st := []) (fun x_31 I_32 J_33 h_34 => ?_)
    obtain ⟨hUI_32, hFI_32, hGJ_33, rx_31⟩ := h_34
    have hF_35 := fq_tr hF hFI_32 (by decide)
    have hG_36 := fq_tr hG hGJ_33 (by decide)
    exact g_zret (ty := .boolean) (r := x_31) B K rfl (nar_z (rg_w rx_31 (by decide) (by decide))) ⟨hUI_32, hF_35, hG_36, rg_w rx_31 (by decide) (by decide), ⟨(pg_fq pg_rf hFI_32 hLx hkx (by decide) (by decide)), fun q => ne_no q rx_31 rc_0⟩, (fun q => ne_no q rx_31 rc_0)⟩ dX12_readNumber_13
set_option maxRecDepth 100000 in
set_option maxHeartbeats 8000000 in
theorem c_X12_isOne_0 {l : Launch} {D : va_G} {cy : Nat → ClassId} {L : List Nat} {κ ln : Nat → Nat} {R : Nat → Nat → Option Nat} {I : Nat → Nat → Int32} {J : Nat → Nat → Int64} {ow : Nat → Nat × Nat} (W9 : ∀ a ∈ L, Shp L κ ln R ow a) {x : Nat} (hLx : x ∈ L) (hkx : κ x = 12) (a1 : Int32) (ra1 : Rg 0 7 a1) (hU : Iw L κ R ow I) : CtI l yX12_isOne cX12_isOne 3 (some .boolean) { frames := 3, cells := 0, slots := 0, locals := 69 } D cy L κ ln R I J [.ref x, .int 0, .int a1] (fun r I2 J2 => Iw L κ R ow I2 ∧ Fq L κ ow [1210, 1211, 1213] I I2 ∧ Fq L κ ow [] J J2 ∧ Rg 0 1 r ∧ (¬ r = 0 → Rg 0 6 (I2 x 13))) := by
  refine CtI.of (by decide +kernel) (Nat.le_of_ble_eq_true rfl) ?_
  intro p e s m below meth c B K
  have C := B.1
  have hF : Fq L κ ow [1210, 1211, 1213] I I := fq_rf
  have hG : Fq L κ ow [] J J := fq_rf
  obtain ⟨b_1, hb_1, hb_1L, hb_1k, hb_1n, hb_1o⟩ := shp_a (W9 x hLx) hkx 20 15 13 rfl (by decide)
  refine g_lo (is := [0, 1, 2]) (lo2 := [(0, .ref x), (1, .int 0), (2, .int a1)]) rfl ?_
  have j_46 : ∀ (I_2 : Nat → Nat → Int32) (J_3 : Nat → Nat → Int64) (hU_4 : Iw L κ R ow I_2) (hF_5 : Fq L κ ow [1210, 1211, 1213] I I_2) (hG_6 : Fq L κ ow [] J J_3) (v_7 : Int32) (rv_7 : Rg 0 6 v_7) (nv_7_m1 : ¬ v_7 = (-1)) (q_8 : I_2 x 13 = v_7), WG p l e { frames := 3, cells := 0, slots := 0, locals := 69 } s m ([.ref x, .int 0, .int a1] : List Value).toArray below meth c 3 0 0 (MQ below (Qi_ D cy L κ ln R (fun r I2 J2 => Iw L κ R ow I2 ∧ Fq L κ ow [1210, 1211, 1213] I I2 ∧ Fq L κ ow [] J J2 ∧ Rg 0 1 r ∧ (¬ r = 0 → Rg 0 6 (I2 x 13)))) ([.ref x, .int 0, .int a1] : List Value).toArray s 0 0 (Al_ L)) D cy (Al_ L) s.heap L κ ln R I_2 J_3 46 [(0, .ref x), (1, .int 0), (2, .int a1)] [] := by
    intro I_2 J_3 hU_4 hF_5 hG_6 v_7 rv_7 nv_7_m1 q_8
    refine g_iconst C (v := 1) dX12_isOne_46 (by decide) ?_
    refine g_goto C (tgt := 51) dX12_isOne_47 (by decide) ?_
    exact g_zret (ty := .boolean) (r := 1) B K rfl (rfl) ⟨hU_4, hF_5, hG_6, rg_w rc_1 (by decide) (by decide), (fun _ => eq_rg q_8 (rv_7))⟩ dX12_isOne_51
  refine g_aload_n C 0 dX12_isOne_0 rfl rfl ?_
  refine g_callVI C K (c_X12_isName W9 hLx hkx   hU) hLx hkx (by decide) rfl v_12_166 rfl ⟨rfl, rfl⟩ ⟨Nat.le_of_ble_eq_true rfl, Nat.le_of_ble_eq_true rfl⟩ (Nat.le_of_ble_eq_true rfl) ⟨Nat.le_of_ble_eq_true rfl, Nat.le_of_ble_eq_true rfl⟩ dX12_isOne_1 rfl (st := []) (fun x_9 I_10 J_11 h_12 => ?_)
  obtain ⟨rfl, rfl, rx_9⟩ := h_12
  refine g_if_ne C (tgt := 13) dX12_isOne_4 (by decide) (fun h_13 => ?_) (fun h_13 => ?_)
  · skip
    have n_14 : ¬ x_9 = 0 := h_13
    have r_15 := ne_lo (lo := 1) n_14 rx_9 rc_0 rfl (by decide)
    refine g_aload_n C 0 dX12_isOne_13 rfl rfl ?_
    refine g_aload_n C 0 dX12_isOne_14 rfl rfl ?_
    refine g_getR C K hLx hkx f_12_32 hb_1 dX12_isOne_15 ?_
    refine g_iload_n C 1 dX12_isOne_18 rfl rfl ?_
    refine g_iload_n C 2 dX12_isOne_19 rfl rfl ?_
    refine g_aload_n C 0 dX12_isOne_20 rfl rfl ?_
    obtain ⟨y_16, hy_16⟩ : ∃ z, J x 12 = z := ⟨_, rfl⟩
    refine g_getJ C K hLx hkx f_12_117 (v := y_16) hy_16 dX12_isOne_21 ?_
    refine g_callSI C K (c_X12_findIn_0 W9 hb_1L hb_1k hb_1n a1 y_16 (ra1) hU) s_12_170 rfl ⟨rfl, rfl⟩ ⟨Nat.le_of_ble_eq_true rfl, Nat.le_of_ble_eq_true rfl⟩ (Nat.le_of_ble_eq_true rfl) ⟨Nat.le_of_ble_eq_true rfl, Nat.le_of_ble_eq_true rfl⟩ dX12_isOne_24 rfl (st := [.ref x]) (fun x_17 I_18 J_19 h_20 => ?_)
    obtain ⟨rfl, rfl, rx_17, ex_17⟩ := h_20
    refine h_putI C K hLx hkx f_12_153 p_12_13 dX12_isOne_27 (fun I_21 hI_21 => ?_)
    have hU_22 := iw_put W9 hU hI_21 (ro_o hkx (by decide)) (lo := (-2147483648)) (hi := 2147483647) (rfl) (rg_all _) rfl
    have hF_23 := fq_puto hF hI_21 hkx (by decide) (by decide)
    refine g_aload_n C 0 dX12_isOne_30 rfl rfl ?_
    refine g_getI C K hLx hkx f_12_153 (v := x_17) (kp_s hI_21) dX12_isOne_31 ?_
    refine g_iconst C (v := (-1)) dX12_isOne_34 (by decide) ?_
    refine g_icmp_ne C (tgt := 46) dX12_isOne_35 (by decide) (fun h_24 => ?_) (fun h_24 => ?_)
    · skip
      have n_25 : ¬ x_17 = (-1) := h_24
      have r_26 := ne_lo (lo := 0) n_25 rx_17 rc_m1 rfl (by decide)
      refine g_lo (is := [0, 1, 2]) (lo2 := [(0, .ref x), (1, .int 0), (2, .int a1)]) rfl ?_
      exact j_46 I_21 J hU_22 hF_23 hG x_17 (r_26) (n_25) (kp_s hI_21)
    · skip
      have r_27 := (⟨(rx_17).1, (eq_rg (h_24) rc_m1).2⟩ : Rg (-1) (-1) x_17)
      refine g_aload_n C 0 dX12_isOne_38 rfl rfl ?_
      refine g_iconst C (v := 3) dX12_isOne_39 (by decide) ?_
      refine g_callVI C K (c_X12_bad W9 hLx hkx 3 (rg_w rc_3 (by decide) (by decide)) hU_22) hLx hkx (by decide) rfl v_12_146 rfl ⟨rfl, rfl⟩ ⟨Nat.le_of_ble_eq_true rfl, Nat.le_of_ble_eq_true rfl⟩ (Nat.le_of_ble_eq_true rfl) ⟨Nat.le_of_ble_eq_true rfl, Nat.le_of_ble_eq_true rfl⟩ dX12_isOne_40 rfl (st := []) (fun x_28 I_29 J_30 h_31 => ?_)
      obtain ⟨hUI_29, hFI_29, hGJ_30, rx_28⟩ := h_31
      have hF_32 := fq_tr hF_23 hFI_29 (by decide)
      have hG_33 := fq_tr hG hGJ_30 (by decide)
      refine g_if_eq C (tgt := 50) dX12_isOne_43 (by decide) (fun h_34 => ?_) (fun h_34 => ?_)
      · skip
        refine g_iconst C (v := 0) dX12_isOne_50 (by decide) ?_
        exact g_zret (ty := .boolean) (r := 0) B K rfl (rfl) ⟨hUI_29, hF_32, hG_33, rg_w rc_0 (by decide) (by decide), (fun q => absurd rfl q)⟩ dX12_isOne_51
      · skip
        exact ne_no (h_34) rx_28 rc_0
  · skip
    have r_35 := (⟨(rx_9).1, (eq_rg (h_13) rc_0).2⟩ : Rg 0 0 x_9)
    refine g_aload_n C 0 dX12_isOne_7 rfl rfl ?_
    refine g_iconst C (v := 1) dX12_isOne_8 (by decide) ?_
    refine g_callVI C K (c_X12_bad W9 hLx hkx 1 (rg_w rc_1 (by decide) (by decide)) hU) hLx hkx (by decide) rfl v_12_146 rfl ⟨rfl, rfl⟩ ⟨Nat.le_of_ble_eq_true rfl, Nat.le_of_ble_eq_true rfl⟩ (Nat.le_of_ble_eq_true rfl) ⟨Nat.le_of_ble_eq_true rfl, Nat.le_of_ble_eq_true rfl⟩ dX12_isOne_9 rfl (st := []) (fun x_36 I_37 J_38 h_39 => ?_)
    obtain ⟨hUI_37, hFI_37, hGJ_38, rx_36⟩ := h_39
    have hF_40 := fq_tr hF hFI_37 (by decide)
    have hG_41 := fq_tr hG hGJ_38 (by decide)
    exact g_zret (ty := .boolean) (r := x_36) B K rfl (nar_z (rg_w rx_36 (by decide) (by decide))) ⟨hUI_37, hF_40, hG_41, rg_w rx_36 (by decide) (by decide), (fun q => ne_no q rx_36 rc_0)⟩ dX12_isOne_12
set_option maxRecDepth 100000 in
set_option maxHeartbeats 8000000 in
theorem c_X12_readOne_0 {l : Launch} {D : va_G} {cy : Nat → ClassId} {L : List Nat} {κ ln : Nat → Nat} {R : Nat → Nat → Option Nat} {I : Nat → Nat → Int32} {J : Nat → Nat → Int64} {ow : Nat → Nat × Nat} (W9 : ∀ a ∈ L, Shp L κ ln R ow a) {x : Nat} (hLx : x ∈ L) (hkx : κ x = 12) (a1 : Int32) (ra1 : Rg 0 7 a1) (hU : Iw L κ R ow I) : CtI l yX12_readOne cX12_readOne 3 (some .boolean) { frames := 4, cells := 0, slots := 0, locals := 91 } D cy L κ ln R I J [.ref x, .int 0, .int a1] (fun r I2 J2 => Iw L κ R ow I2 ∧ Fq L κ ow [1205, 1206, 1207, 1208, 1209, 1210, 1211, 1213] I I2 ∧ Fq L κ ow [1212] J J2 ∧ Rg 0 1 r ∧ (Pg_ x I I2 ∧ (¬ r = 0 → Ps_ x I I2)) ∧ (¬ r = 0 → Rg 0 6 (I2 x 13))) := by
  refine CtI.of (by decide +kernel) (Nat.le_of_ble_eq_true rfl) ?_
  intro p e s m below meth c B K
  have C := B.1
  have hF : Fq L κ ow [1205, 1206, 1207, 1208, 1209, 1210, 1211, 1213] I I := fq_rf
  have hG : Fq L κ ow [1212] J J := fq_rf
  refine g_lo (is := [0, 1, 2]) (lo2 := [(0, .ref x), (1, .int 0), (2, .int a1)]) rfl ?_
  refine g_aload_n C 0 dX12_readOne_0 rfl rfl ?_
  refine g_iload_n C 1 dX12_readOne_1 rfl rfl ?_
  refine g_iload_n C 2 dX12_readOne_2 rfl rfl ?_
  obtain ⟨x_1, hx_1, rx_1⟩ := ex_getw (I := I) (a := x) (j := 13) (lo := (-2147483648)) (hi := 2147483647) hU.1 hLx (ro_o hkx (by decide)) rfl
  refine g_callVI C K (c_X12_isOne_0 W9 hLx hkx a1 (ra1) hU) hLx hkx (by decide) rfl v_12_174 rfl ⟨rfl, rfl⟩ ⟨Nat.le_of_ble_eq_true rfl, Nat.le_of_ble_eq_true rfl⟩ (Nat.le_of_ble_eq_true rfl) ⟨Nat.le_of_ble_eq_true rfl, Nat.le_of_ble_eq_true rfl⟩ dX12_readOne_3 rfl (st := []) (fun x_2 I_3 J_4 h_5 => ?_)
  obtain ⟨hUI_3, hFI_3, hGJ_4, rx_2, ex_2⟩ := h_5
  have hF_6 := fq_tr hF hFI_3 (by decide)
  have hG_7 := fq_tr hG hGJ_4 (by decide)
  obtain ⟨x_8, hx_8, rx_8⟩ := ex_getw (I := I_3) (a := x) (j := 13) (lo := (-2147483648)) (hi := 2147483647) hUI_3.1 hLx (ro_o hkx (by decide)) rfl
  have q_9 := hx_8
  refine g_if_ne C (tgt := 11) dX12_readOne_6 (by decide) (fun h_10 => ?_) (fun h_10 => ?_)
  · skip
    have n_11 : ¬ x_2 = 0 := h_10
    have r_12 := ne_lo (lo := 1) n_11 rx_2 rc_0 rfl (by decide)
    have r_13 := rg_i rx_8 (eq_rg q_9.symm ((ex_2) n_11)) (lo := 0) (hi := 6) (by decide) (by decide)
    refine g_aload_n C 0 dX12_readOne_11 rfl rfl ?_
    refine g_callVV C K (c_X12_go W9 hLx hkx   hUI_3) hLx hkx (by decide) rfl v_12_156 rfl ⟨rfl, rfl⟩ ⟨Nat.le_of_ble_eq_true rfl, Nat.le_of_ble_eq_true rfl⟩ (Nat.le_of_ble_eq_true rfl) ⟨Nat.le_of_ble_eq_true rfl, Nat.le_of_ble_eq_true rfl⟩ dX12_readOne_12 rfl (st := []) (fun I_15 J_16 h_17 => ?_)
    obtain ⟨hUI_15, hFI_15, hGJ_16, ex_14⟩ := h_17
    have hF_18 := fq_tr hF_6 hFI_15 (by decide)
    have hG_19 := fq_tr hG_7 hGJ_16 (by decide)
    refine g_iconst C (v := 1) dX12_readOne_15 (by decide) ?_
    exact g_zret (ty := .boolean) (r := 1) B K rfl (rfl) ⟨hUI_15, hF_18, hG_19, rg_w rc_1 (by decide) (by decide), ⟨(pg_s (ps_t2 (pg_fq pg_rf hFI_3 hLx hkx (by decide) (by decide)) ex_14)), fun _ => (ps_t2 (pg_fq pg_rf hFI_3 hLx hkx (by decide) (by decide)) ex_14)⟩, (fun _ => eq_rg (fq_at hFI_15 hLx hkx (by decide) (by decide) hx_8) (r_13))⟩ dX12_readOne_16
  · skip
    have r_20 := (⟨(rx_2).1, (eq_rg (h_10) rc_0).2⟩ : Rg 0 0 x_2)
    refine g_iconst C (v := 0) dX12_readOne_9 (by decide) ?_
    exact g_zret (ty := .boolean) (r := 0) B K rfl (rfl) ⟨hUI_3, hF_6, hG_7, rg_w rc_0 (by decide) (by decide), ⟨(pg_fq pg_rf hFI_3 hLx hkx (by decide) (by decide)), fun q => absurd rfl q⟩, (fun q => absurd rfl q)⟩ dX12_readOne_10
set_option maxRecDepth 100000 in
set_option maxHeartbeats 8000000 in
theorem c_X12_readPerson {l : Launch} {D : va_G} {cy : Nat → ClassId} {L : List Nat} {κ ln : Nat → Nat} {R : Nat → Nat → Option Nat} {I : Nat → Nat → Int32} {J : Nat → Nat → Int64} {ow : Nat → Nat × Nat} (W9 : ∀ a ∈ L, Shp L κ ln R ow a) {x : Nat} (hLx : x ∈ L) (hkx : κ x = 12) (hU : Iw L κ R ow I) : CtI l yX12_readPerson cX12_readPerson 2 (some .boolean) { frames := 5, cells := 0, slots := 0, locals := 113 } D cy L κ ln R I J [.ref x] (fun r I2 J2 => Iw L κ R ow I2 ∧ Fq L κ ow [1205, 1206, 1207, 1208, 1209, 1210, 1211, 1213, 83500] I I2 ∧ Fq L κ ow [1212, 84000] J J2 ∧ Rg 0 1 r ∧ (Pg_ x I I2 ∧ (¬ r = 0 → Ps_ x I I2))) := by
  refine CtI.of (by decide +kernel) (Nat.le_of_ble_eq_true rfl) ?_
  intro p e s m below meth c B K
  have C := B.1
  have hF : Fq L κ ow [1205, 1206, 1207, 1208, 1209, 1210, 1211, 1213, 83500] I I := fq_rf
  have hG : Fq L κ ow [1212, 84000] J J := fq_rf
  obtain ⟨b_1, hb_1, hb_1L, hb_1k, hb_1n, hb_1o⟩ := shp_a (W9 x hLx) hkx 15 14 72 rfl (by decide)
  refine g_lo (is := [0]) (lo2 := [(0, .ref x)]) rfl ?_
  have j_88 : ∀ (I_2 : Nat → Nat → Int32) (J_3 : Nat → Nat → Int64) (hU_4 : Iw L κ R ow I_2) (hF_5 : Fq L κ ow [1205, 1206, 1207, 1208, 1209, 1210, 1211, 1213, 83500] I I_2) (hG_6 : Fq L κ ow [1212, 84000] J J_3) (v_7 : Int32) (rv_7 : Rg 0 6 v_7) (v_8 : Int32) (rv_8 : Rg 0 20 v_8) (q_9 : I_2 x 13 = v_8) (q_10 : I_2 b_1 0 = v_7) (pg_11 : Pg_ x I I_2) (ps_12 : Ps_ x I I_2), WG p l e { frames := 5, cells := 0, slots := 0, locals := 113 } s m ([.ref x] : List Value).toArray below meth c 2 0 0 (MQ below (Qi_ D cy L κ ln R (fun r I2 J2 => Iw L κ R ow I2 ∧ Fq L κ ow [1205, 1206, 1207, 1208, 1209, 1210, 1211, 1213, 83500] I I2 ∧ Fq L κ ow [1212, 84000] J J2 ∧ Rg 0 1 r ∧ (Pg_ x I I2 ∧ (¬ r = 0 → Ps_ x I I2)))) ([.ref x] : List Value).toArray s 0 0 (Al_ L)) D cy (Al_ L) s.heap L κ ln R I_2 J_3 88 [(0, .ref x), (1, .int v_7)] [] := by
    intro I_2 J_3 hU_4 hF_5 hG_6 v_7 rv_7 v_8 rv_8 q_9 q_10 pg_11 ps_12
    refine g_aload_n C 0 dX12_readPerson_88 rfl rfl ?_
    refine g_getR C K hLx hkx f_12_16 hb_1 dX12_readPerson_89 ?_
    refine g_iconst C (v := 0) dX12_readPerson_92 (by decide) ?_
    refine g_dup2 C dX12_readPerson_93 rfl rfl ?_
    refine h_iald C K hb_1L hb_1k (v := v_7) (0) (by decide) (by decide) (by rw [hb_1n]; decide) q_10 dX12_readPerson_94 ?_
    refine g_iconst C (v := 1) dX12_readPerson_95 (by decide) ?_
    obtain ⟨x_14, hx_14, rx_14, tx_14⟩ := ex_add 1 7 rv_7 rc_1 (by decide) (by decide) (by decide) (by decide)
    refine g_iadd C (v := x_14) dX12_readPerson_96 hx_14 ?_
    refine h_iast C K hb_1L hb_1k (0) (by decide) (by decide) (by rw [hb_1n]; decide) dX12_readPerson_97 (fun I_15 hI_15 => ?_)
    have hU_16 := iw_put W9 hU_4 hI_15 (ro_a hb_1k (by decide) hb_1o hkx rfl) (lo := 0) (hi := 7) (by decide) (rg_w rx_14 (by decide) (by decide)) rfl
    have hF_17 := fq_puta hF_5 hI_15 (ro_a hb_1k (by decide) hb_1o hkx rfl) (by decide) (by decide)
    refine g_iconst C (v := 1) dX12_readPerson_98 (by decide) ?_
    exact g_zret (ty := .boolean) (r := 1) B K rfl (rfl) ⟨hU_16, hF_17, hG_6, rg_w rc_1 (by decide) (by decide), ⟨(pg_u pg_11 hI_15 (Or.inl (kn_k hkx hb_1k (by decide))) (Or.inl (kn_k hkx hb_1k (by decide)))), fun _ => (ps_u ps_12 hI_15 (Or.inl (kn_k hkx hb_1k (by decide))) (Or.inl (kn_k hkx hb_1k (by decide))))⟩⟩ dX12_readPerson_99
  refine g_aload_n C 0 dX12_readPerson_0 rfl rfl ?_
  refine g_iconst C (v := 0) dX12_readPerson_1 (by decide) ?_
  refine g_bipush C (v := 7) dX12_readPerson_2 (by decide) ?_
  refine g_callVI C K (c_X12_readFirst_0_7 W9 hLx hkx   hU) hLx hkx (by decide) rfl v_12_178 rfl ⟨rfl, rfl⟩ ⟨Nat.le_of_ble_eq_true rfl, Nat.le_of_ble_eq_true rfl⟩ (Nat.le_of_ble_eq_true rfl) ⟨Nat.le_of_ble_eq_true rfl, Nat.le_of_ble_eq_true rfl⟩ dX12_readPerson_4 rfl (st := []) (fun x_18 I_19 J_20 h_21 => ?_)
  obtain ⟨hUI_19, hFI_19, hGJ_20, rx_18, ex_18⟩ := h_21
  have hF_22 := fq_tr hF hFI_19 (by decide)
  have hG_23 := fq_tr hG hGJ_20 (by decide)
  obtain ⟨x_24, hx_24, rx_24⟩ := ex_any (z0 := I_19 b_1 0)
  have q_25 := hx_24
  refine g_if_ne C (tgt := 12) dX12_readPerson_7 (by decide) (fun h_26 => ?_) (fun h_26 => ?_)
  · skip
    have n_27 : ¬ x_18 = 0 := h_26
    have r_28 := ne_lo (lo := 1) n_27 rx_18 rc_0 rfl (by decide)
    have r_29 := rg_i rx_24 (eq_rg q_25.symm ((ex_18.2) n_27 _ hb_1)) (lo := 0) (hi := 6) (by decide) (by decide)
    refine g_aload_n C 0 dX12_readPerson_12 rfl rfl ?_
    refine g_getR C K hLx hkx f_12_16 hb_1 dX12_readPerson_13 ?_
    refine g_iconst C (v := 0) dX12_readPerson_16 (by decide) ?_
    refine h_iald C K hb_1L hb_1k (v := x_24) (0) (by decide) (by decide) (by rw [hb_1n]; decide) hx_24 dX12_readPerson_17 ?_
    refine g_istore_n C dX12_readPerson_18 rfl (by decide) (lo2 := [(1, .int x_24), (0, .ref x)]) rfl ?_
    refine g_aload_n C 1 dX12_readPerson_19 rfl rfl ?_
    refine g_iload_n C 0 dX12_readPerson_20 rfl rfl ?_
    refine g_callVI C K (c_X12_readNew W9 hLx hkx x_24 (rg_w r_29 (by decide) (by decide)) hUI_19) hLx hkx (by decide) rfl v_12_181 rfl ⟨rfl, rfl⟩ ⟨Nat.le_of_ble_eq_true rfl, Nat.le_of_ble_eq_true rfl⟩ (Nat.le_of_ble_eq_true rfl) ⟨Nat.le_of_ble_eq_true rfl, Nat.le_of_ble_eq_true rfl⟩ dX12_readPerson_21 rfl (st := []) (fun x_31 I_32 J_33 h_34 => ?_)
    obtain ⟨hUI_32, hFI_32, hGJ_33, rx_31, ex_31⟩ := h_34
    have hF_35 := fq_tr hF_22 hFI_32 (by decide)
    have hG_36 := fq_tr hG_23 hGJ_33 (by decide)
    refine g_if_eq C (tgt := 44) dX12_readPerson_24 (by decide) (fun h_37 => ?_) (fun h_37 => ?_)
    · skip
      have r_38 := (⟨(rx_31).1, (eq_rg (h_37) rc_0).2⟩ : Rg 0 0 x_31)
      refine g_iconst C (v := 0) dX12_readPerson_44 (by decide) ?_
      exact g_zret (ty := .boolean) (r := 0) B K rfl (rfl) ⟨hUI_32, hF_35, hG_36, rg_w rc_0 (by decide) (by decide), ⟨(pg_t (pg_t pg_rf ex_18.1.1) ex_31.1), fun q => absurd rfl q⟩⟩ dX12_readPerson_45
    · skip
      have n_39 : ¬ x_31 = 0 := h_37
      have r_40 := ne_lo (lo := 1) n_39 rx_31 rc_0 rfl (by decide)
      refine g_aload_n C 1 dX12_readPerson_27 rfl rfl ?_
      refine g_iconst C (v := 4) dX12_readPerson_28 (by decide) ?_
      refine g_iload_n C 0 dX12_readPerson_29 rfl rfl ?_
      obtain ⟨x_41, hx_41, rx_41, tx_41⟩ := ex_add 4 10 rc_4 r_29 (by decide) (by decide) (by decide) (by decide)
      refine g_iadd C (v := x_41) dX12_readPerson_30 hx_41 ?_
      refine g_aload_n C 1 dX12_readPerson_31 rfl rfl ?_
      refine g_iconst C (v := 0) dX12_readPerson_32 (by decide) ?_
      refine g_bipush C (v := 20) dX12_readPerson_33 (by decide) ?_
      obtain ⟨x_42, hx_42, rx_42⟩ := ex_getw (I := I_32) (a := x) (j := 13) (lo := (-2147483648)) (hi := 2147483647) hUI_32.1 hLx (ro_o hkx (by decide)) rfl
      refine g_callVI C K (c_X12_readNumber_0_20 W9 hLx hkx   hUI_32) hLx hkx (by decide) rfl v_12_184 rfl ⟨rfl, rfl⟩ ⟨Nat.le_of_ble_eq_true rfl, Nat.le_of_ble_eq_true rfl⟩ (Nat.le_of_ble_eq_true rfl) ⟨Nat.le_of_ble_eq_true rfl, Nat.le_of_ble_eq_true rfl⟩ dX12_readPerson_35 rfl (st := [.int x_41, .ref x]) (fun x_43 I_44 J_45 h_46 => ?_)
      obtain ⟨hUI_44, hFI_44, hGJ_45, rx_43, ex_43⟩ := h_46
      have hF_47 := fq_tr hF_35 hFI_44 (by decide)
      have hG_48 := fq_tr hG_36 hGJ_45 (by decide)
      obtain ⟨x_49, hx_49, rx_49⟩ := ex_getw (I := I_44) (a := x) (j := 13) (lo := (-2147483648)) (hi := 2147483647) hUI_44.1 hLx (ro_o hkx (by decide)) rfl
      have q_50 := hx_49
      refine g_callVI C K (c_X12_put_4_10 W9 hLx hkx x_41 x_43 (rx_41) (rx_43) hUI_44  (fun hq => by have n_51 : ¬ x_43 = 0 := hq; have r_52 := ne_lo (lo := 1) n_51 rx_43 rc_0 rfl (by decide); have r_53 := rg_i rx_49 (eq_rg q_50.symm ((ex_43.2) n_51)) (lo := 0) (hi := 20) (by decide) (by decide); exact eq_rg hx_49 (r_53))) hLx hkx (by decide) rfl v_12_187 rfl ⟨rfl, rfl⟩ ⟨Nat.le_of_ble_eq_true rfl, Nat.le_of_ble_eq_true rfl⟩ (Nat.le_of_ble_eq_true rfl) ⟨Nat.le_of_ble_eq_true rfl, Nat.le_of_ble_eq_true rfl⟩ dX12_readPerson_38 rfl (st := []) (fun x_54 I_55 J_56 h_57 => ?_)
      obtain ⟨hUI_55, hFI_55, hGJ_56, rx_54, ex_54⟩ := h_57
      have hF_58 := fq_tr hF_47 hFI_55 (by decide)
      have hG_59 := fq_tr hG_48 hGJ_56 (by decide)
      have q_60 := ((ex_54.2 _ hb_1).1).trans (fq_ar hFI_44 hb_1L (ro_a hb_1k (by decide) hb_1o hkx rfl) (by decide) (by decide) (fq_ar hFI_32 hb_1L (ro_a hb_1k (by decide) hb_1o hkx rfl) (by decide) (by decide) hx_24))
      refine g_if_ne C (tgt := 46) dX12_readPerson_41 (by decide) (fun h_61 => ?_) (fun h_61 => ?_)
      · skip
        have n_62 : ¬ x_54 = 0 := h_61
        have r_63 := ne_lo (lo := 1) n_62 rx_54 rc_0 rfl (by decide)
        have n_64 : ¬ x_43 = 0 := (fun q => n_62 (Eq.trans ex_54.1 q))
        have r_65 := ne_lo (lo := 1) n_64 rx_43 rc_0 rfl (by decide)
        have r_66 := rg_i rx_49 (eq_rg q_50.symm ((ex_43.2) n_64)) (lo := 0) (hi := 20) (by decide) (by decide)
        refine g_aload_n C 1 dX12_readPerson_46 rfl rfl ?_
        refine g_getR C K hLx hkx f_12_16 hb_1 dX12_readPerson_47 ?_
        refine g_bipush C (v := 11) dX12_readPerson_50 (by decide) ?_
        refine g_iload_n C 0 dX12_readPerson_52 rfl rfl ?_
        obtain ⟨x_67, hx_67, rx_67, tx_67⟩ := ex_add 11 17 rc_11 r_29 (by decide) (by decide) (by decide) (by decide)
        refine g_iadd C (v := x_67) dX12_readPerson_53 hx_67 ?_
        refine g_iconst C (v := (-1)) dX12_readPerson_54 (by decide) ?_
        refine h_iast C K hb_1L hb_1k (x_67.toNatClampNeg) (rfl) (ix_0 rx_67 (by decide)) (ix_lt rx_67 (by decide) hb_1n (by decide)) dX12_readPerson_55 (fun I_68 hI_68 => ?_)
        have hU_69 := iw_put W9 hUI_55 hI_68 (ro_a hb_1k (by decide) hb_1o hkx rfl) (lo := (-2147483648)) (hi := 2147483647) (bn_835.trans (zq_11 (ix_k (lo := 11) (hi := 17) rx_67 (by decide) (by decide) (by decide)))) (rg_all _) rfl
        have hF_70 := fq_puta hF_58 hI_68 (ro_a hb_1k (by decide) hb_1o hkx rfl) (by decide) (by decide)
        refine g_aload_n C 1 dX12_readPerson_56 rfl rfl ?_
        refine g_bipush C (v := 22) dX12_readPerson_57 (by decide) ?_
        refine g_callVI C K (c_X12_isWord W9 hLx hkx 22 (rg_w rc_22 (by decide) (by decide)) hU_69) hLx hkx (by decide) rfl v_12_191 rfl ⟨rfl, rfl⟩ ⟨Nat.le_of_ble_eq_true rfl, Nat.le_of_ble_eq_true rfl⟩ (Nat.le_of_ble_eq_true rfl) ⟨Nat.le_of_ble_eq_true rfl, Nat.le_of_ble_eq_true rfl⟩ dX12_readPerson_59 rfl (st := []) (fun x_71 I_72 J_73 h_74 => ?_)
        obtain ⟨rfl, rfl, rx_71⟩ := h_74
        refine g_if_eq C (tgt := 88) dX12_readPerson_62 (by decide) (fun h_75 => ?_) (fun h_75 => ?_)
        · skip
          have r_76 := (⟨(rx_71).1, (eq_rg (h_75) rc_0).2⟩ : Rg 0 0 x_71)
          refine g_lo (is := [1, 0]) (lo2 := [(0, .ref x), (1, .int x_24)]) rfl ?_
          exact j_88 I_68 J_56 hU_69 hF_70 hG_59 x_24 (r_29) x_49 (r_66) (kp_k (κ := κ) hI_68 (by rw [hkx, hb_1k]; decide) (fq_at hFI_55 hLx hkx (by decide) (by decide) hx_49)) (kp_j hI_68 (ix_ne rx_67 (by decide)) q_60) (pg_u (pg_fq (pg_t (pg_t (pg_t pg_rf ex_18.1.1) ex_31.1) ex_43.1.1) hFI_55 hLx hkx (by decide) (by decide)) hI_68 (Or.inl (kn_k hkx hb_1k (by decide))) (Or.inl (kn_k hkx hb_1k (by decide)))) (ps_u (ps_fq (ps_t2 (pg_t (pg_t pg_rf ex_18.1.1) ex_31.1) (ex_43.1.2 n_64)) hFI_55 hLx hkx (by decide) (by decide)) hI_68 (Or.inl (kn_k hkx hb_1k (by decide))) (Or.inl (kn_k hkx hb_1k (by decide))))
        · skip
          have n_77 : ¬ x_71 = 0 := h_75
          have r_78 := ne_lo (lo := 1) n_77 rx_71 rc_0 rfl (by decide)
          refine g_aload_n C 1 dX12_readPerson_65 rfl rfl ?_
          refine g_callVV C K (c_X12_go W9 hLx hkx   hU_69) hLx hkx (by decide) rfl v_12_156 rfl ⟨rfl, rfl⟩ ⟨Nat.le_of_ble_eq_true rfl, Nat.le_of_ble_eq_true rfl⟩ (Nat.le_of_ble_eq_true rfl) ⟨Nat.le_of_ble_eq_true rfl, Nat.le_of_ble_eq_true rfl⟩ dX12_readPerson_66 rfl (st := []) (fun I_80 J_81 h_82 => ?_)
          obtain ⟨hUI_80, hFI_80, hGJ_81, ex_79⟩ := h_82
          have hF_83 := fq_tr hF_70 hFI_80 (by decide)
          have hG_84 := fq_tr hG_59 hGJ_81 (by decide)
          refine g_aload_n C 1 dX12_readPerson_69 rfl rfl ?_
          refine g_bipush C (v := 11) dX12_readPerson_70 (by decide) ?_
          refine g_iload_n C 0 dX12_readPerson_72 rfl rfl ?_
          refine g_iadd C (v := x_67) dX12_readPerson_73 hx_67 ?_
          refine g_aload_n C 1 dX12_readPerson_74 rfl rfl ?_
          refine g_iconst C (v := 0) dX12_readPerson_75 (by decide) ?_
          refine g_iload_n C 0 dX12_readPerson_76 rfl rfl ?_
          refine g_callVI C K (c_X12_readOne_0 W9 hLx hkx x_24 (rg_w r_29 (by decide) (by decide)) hUI_80) hLx hkx (by decide) rfl v_12_194 rfl ⟨rfl, rfl⟩ ⟨Nat.le_of_ble_eq_true rfl, Nat.le_of_ble_eq_true rfl⟩ (Nat.le_of_ble_eq_true rfl) ⟨Nat.le_of_ble_eq_true rfl, Nat.le_of_ble_eq_true rfl⟩ dX12_readPerson_77 rfl (st := [.int x_67, .ref x]) (fun x_85 I_86 J_87 h_88 => ?_)
          obtain ⟨hUI_86, hFI_86, hGJ_87, rx_85, ex_85⟩ := h_88
          have hF_89 := fq_tr hF_83 hFI_86 (by decide)
          have hG_90 := fq_tr hG_84 hGJ_87 (by decide)
          obtain ⟨x_91, hx_91, rx_91⟩ := ex_getw (I := I_86) (a := x) (j := 13) (lo := (-2147483648)) (hi := 2147483647) hUI_86.1 hLx (ro_o hkx (by decide)) rfl
          have q_92 := hx_91
          have q_93 := (fq_ar hFI_86 hb_1L (ro_a hb_1k (by decide) hb_1o hkx rfl) (by decide) (by decide) (fq_ar hFI_80 hb_1L (ro_a hb_1k (by decide) hb_1o hkx rfl) (by decide) (by decide) (kp_j hI_68 (ix_ne rx_67 (by decide)) q_60)))
          refine g_callVI C K (c_X12_put_11_17 W9 hLx hkx x_67 x_85 (rx_67) (rx_85) hUI_86) hLx hkx (by decide) rfl v_12_187 rfl ⟨rfl, rfl⟩ ⟨Nat.le_of_ble_eq_true rfl, Nat.le_of_ble_eq_true rfl⟩ (Nat.le_of_ble_eq_true rfl) ⟨Nat.le_of_ble_eq_true rfl, Nat.le_of_ble_eq_true rfl⟩ dX12_readPerson_80 rfl (st := []) (fun x_94 I_95 J_96 h_97 => ?_)
          obtain ⟨hUI_95, hFI_95, hGJ_96, rx_94, ex_94⟩ := h_97
          have hF_98 := fq_tr hF_89 hFI_95 (by decide)
          have hG_99 := fq_tr hG_90 hGJ_96 (by decide)
          have q_100 := ((ex_94.2 _ hb_1).1).trans q_93
          refine g_if_ne C (tgt := 88) dX12_readPerson_83 (by decide) (fun h_101 => ?_) (fun h_101 => ?_)
          · skip
            have n_102 : ¬ x_94 = 0 := h_101
            have r_103 := ne_lo (lo := 1) n_102 rx_94 rc_0 rfl (by decide)
            have n_104 : ¬ x_85 = 0 := (fun q => n_102 (Eq.trans ex_94.1 q))
            have r_105 := ne_lo (lo := 1) n_104 rx_85 rc_0 rfl (by decide)
            have r_106 := rg_i rx_91 (eq_rg q_92.symm ((ex_85.2) n_104)) (lo := 0) (hi := 6) (by decide) (by decide)
            refine g_lo (is := [1, 0]) (lo2 := [(0, .ref x), (1, .int x_24)]) rfl ?_
            exact j_88 I_95 J_96 hUI_95 hF_98 hG_99 x_24 (r_29) x_91 (rg_w r_106 (by decide) (by decide)) (fq_at hFI_95 hLx hkx (by decide) (by decide) hx_91) q_100 (pg_fq (pg_t (pg_s (ps_t2 (pg_u (pg_fq (pg_t (pg_t (pg_t pg_rf ex_18.1.1) ex_31.1) ex_43.1.1) hFI_55 hLx hkx (by decide) (by decide)) hI_68 (Or.inl (kn_k hkx hb_1k (by decide))) (Or.inl (kn_k hkx hb_1k (by decide)))) ex_79)) ex_85.1.1) hFI_95 hLx hkx (by decide) (by decide)) (ps_fq (ps_t2 (pg_s (ps_t2 (pg_u (pg_fq (pg_t (pg_t (pg_t pg_rf ex_18.1.1) ex_31.1) ex_43.1.1) hFI_55 hLx hkx (by decide) (by decide)) hI_68 (Or.inl (kn_k hkx hb_1k (by decide))) (Or.inl (kn_k hkx hb_1k (by decide)))) ex_79)) (ex_85.1.2 n_104)) hFI_95 hLx hkx (by decide) (by decide))
          · skip
            have r_107 := (⟨(rx_94).1, (eq_rg (h_101) rc_0).2⟩ : Rg 0 0 x_94)
            refine g_iconst C (v := 0) dX12_readPerson_86 (by decide) ?_
            exact g_zret (ty := .boolean) (r := 0) B K rfl (rfl) ⟨hUI_95, hF_98, hG_99, rg_w rc_0 (by decide) (by decide), ⟨(pg_fq (pg_t (pg_s (ps_t2 (pg_u (pg_fq (pg_t (pg_t (pg_t pg_rf ex_18.1.1) ex_31.1) ex_43.1.1) hFI_55 hLx hkx (by decide) (by decide)) hI_68 (Or.inl (kn_k hkx hb_1k (by decide))) (Or.inl (kn_k hkx hb_1k (by decide)))) ex_79)) ex_85.1.1) hFI_95 hLx hkx (by decide) (by decide)), fun q => absurd rfl q⟩⟩ dX12_readPerson_87
      · skip
        have r_108 := (⟨(rx_54).1, (eq_rg (h_61) rc_0).2⟩ : Rg 0 0 x_54)
        refine g_iconst C (v := 0) dX12_readPerson_44 (by decide) ?_
        exact g_zret (ty := .boolean) (r := 0) B K rfl (rfl) ⟨hUI_55, hF_58, hG_59, rg_w rc_0 (by decide) (by decide), ⟨(pg_fq (pg_t (pg_t (pg_t pg_rf ex_18.1.1) ex_31.1) ex_43.1.1) hFI_55 hLx hkx (by decide) (by decide)), fun q => absurd rfl q⟩⟩ dX12_readPerson_45
  · skip
    have r_109 := (⟨(rx_18).1, (eq_rg (h_26) rc_0).2⟩ : Rg 0 0 x_18)
    refine g_iconst C (v := 0) dX12_readPerson_10 (by decide) ?_
    exact g_zret (ty := .boolean) (r := 0) B K rfl (rfl) ⟨hUI_19, hF_22, hG_23, rg_w rc_0 (by decide) (by decide), ⟨(pg_t pg_rf ex_18.1.1), fun q => absurd rfl q⟩⟩ dX12_readPerson_11
set_option maxRecDepth 100000 in
set_option maxHeartbeats 8000000 in
theorem c_X12_isOne_7 {l : Launch} {D : va_G} {cy : Nat → ClassId} {L : List Nat} {κ ln : Nat → Nat} {R : Nat → Nat → Option Nat} {I : Nat → Nat → Int32} {J : Nat → Nat → Int64} {ow : Nat → Nat × Nat} (W9 : ∀ a ∈ L, Shp L κ ln R ow a) {x : Nat} (hLx : x ∈ L) (hkx : κ x = 12) (a1 : Int32) (ra1 : Rg 0 6 a1) (hU : Iw L κ R ow I) : CtI l yX12_isOne cX12_isOne 3 (some .boolean) { frames := 3, cells := 0, slots := 0, locals := 69 } D cy L κ ln R I J [.ref x, .int 7, .int a1] (fun r I2 J2 => Iw L κ R ow I2 ∧ Fq L κ ow [1210, 1211, 1213] I I2 ∧ Fq L κ ow [] J J2 ∧ Rg 0 1 r ∧ (¬ r = 0 → Rg 0 5 (I2 x 13))) := by
  refine CtI.of (by decide +kernel) (Nat.le_of_ble_eq_true rfl) ?_
  intro p e s m below meth c B K
  have C := B.1
  have hF : Fq L κ ow [1210, 1211, 1213] I I := fq_rf
  have hG : Fq L κ ow [] J J := fq_rf
  obtain ⟨b_1, hb_1, hb_1L, hb_1k, hb_1n, hb_1o⟩ := shp_a (W9 x hLx) hkx 20 15 13 rfl (by decide)
  refine g_lo (is := [0, 1, 2]) (lo2 := [(0, .ref x), (1, .int 7), (2, .int a1)]) rfl ?_
  have j_46 : ∀ (I_2 : Nat → Nat → Int32) (J_3 : Nat → Nat → Int64) (hU_4 : Iw L κ R ow I_2) (hF_5 : Fq L κ ow [1210, 1211, 1213] I I_2) (hG_6 : Fq L κ ow [] J J_3) (v_7 : Int32) (rv_7 : Rg 0 5 v_7) (nv_7_m1 : ¬ v_7 = (-1)) (q_8 : I_2 x 13 = v_7), WG p l e { frames := 3, cells := 0, slots := 0, locals := 69 } s m ([.ref x, .int 7, .int a1] : List Value).toArray below meth c 3 0 0 (MQ below (Qi_ D cy L κ ln R (fun r I2 J2 => Iw L κ R ow I2 ∧ Fq L κ ow [1210, 1211, 1213] I I2 ∧ Fq L κ ow [] J J2 ∧ Rg 0 1 r ∧ (¬ r = 0 → Rg 0 5 (I2 x 13)))) ([.ref x, .int 7, .int a1] : List Value).toArray s 0 0 (Al_ L)) D cy (Al_ L) s.heap L κ ln R I_2 J_3 46 [(0, .ref x), (1, .int 7), (2, .int a1)] [] := by
    intro I_2 J_3 hU_4 hF_5 hG_6 v_7 rv_7 nv_7_m1 q_8
    refine g_iconst C (v := 1) dX12_isOne_46 (by decide) ?_
    refine g_goto C (tgt := 51) dX12_isOne_47 (by decide) ?_
    exact g_zret (ty := .boolean) (r := 1) B K rfl (rfl) ⟨hU_4, hF_5, hG_6, rg_w rc_1 (by decide) (by decide), (fun _ => eq_rg q_8 (rv_7))⟩ dX12_isOne_51
  refine g_aload_n C 0 dX12_isOne_0 rfl rfl ?_
  refine g_callVI C K (c_X12_isName W9 hLx hkx   hU) hLx hkx (by decide) rfl v_12_166 rfl ⟨rfl, rfl⟩ ⟨Nat.le_of_ble_eq_true rfl, Nat.le_of_ble_eq_true rfl⟩ (Nat.le_of_ble_eq_true rfl) ⟨Nat.le_of_ble_eq_true rfl, Nat.le_of_ble_eq_true rfl⟩ dX12_isOne_1 rfl (st := []) (fun x_9 I_10 J_11 h_12 => ?_)
  obtain ⟨rfl, rfl, rx_9⟩ := h_12
  refine g_if_ne C (tgt := 13) dX12_isOne_4 (by decide) (fun h_13 => ?_) (fun h_13 => ?_)
  · skip
    have n_14 : ¬ x_9 = 0 := h_13
    have r_15 := ne_lo (lo := 1) n_14 rx_9 rc_0 rfl (by decide)
    refine g_aload_n C 0 dX12_isOne_13 rfl rfl ?_
    refine g_aload_n C 0 dX12_isOne_14 rfl rfl ?_
    refine g_getR C K hLx hkx f_12_32 hb_1 dX12_isOne_15 ?_
    refine g_iload_n C 1 dX12_isOne_18 rfl rfl ?_
    refine g_iload_n C 2 dX12_isOne_19 rfl rfl ?_
    refine g_aload_n C 0 dX12_isOne_20 rfl rfl ?_
    obtain ⟨y_16, hy_16⟩ : ∃ z, J x 12 = z := ⟨_, rfl⟩
    refine g_getJ C K hLx hkx f_12_117 (v := y_16) hy_16 dX12_isOne_21 ?_
    refine g_callSI C K (c_X12_findIn_7 W9 hb_1L hb_1k hb_1n a1 y_16 (ra1) hU) s_12_170 rfl ⟨rfl, rfl⟩ ⟨Nat.le_of_ble_eq_true rfl, Nat.le_of_ble_eq_true rfl⟩ (Nat.le_of_ble_eq_true rfl) ⟨Nat.le_of_ble_eq_true rfl, Nat.le_of_ble_eq_true rfl⟩ dX12_isOne_24 rfl (st := [.ref x]) (fun x_17 I_18 J_19 h_20 => ?_)
    obtain ⟨rfl, rfl, rx_17, ex_17⟩ := h_20
    refine h_putI C K hLx hkx f_12_153 p_12_13 dX12_isOne_27 (fun I_21 hI_21 => ?_)
    have hU_22 := iw_put W9 hU hI_21 (ro_o hkx (by decide)) (lo := (-2147483648)) (hi := 2147483647) (rfl) (rg_all _) rfl
    have hF_23 := fq_puto hF hI_21 hkx (by decide) (by decide)
    refine g_aload_n C 0 dX12_isOne_30 rfl rfl ?_
    refine g_getI C K hLx hkx f_12_153 (v := x_17) (kp_s hI_21) dX12_isOne_31 ?_
    refine g_iconst C (v := (-1)) dX12_isOne_34 (by decide) ?_
    refine g_icmp_ne C (tgt := 46) dX12_isOne_35 (by decide) (fun h_24 => ?_) (fun h_24 => ?_)
    · skip
      have n_25 : ¬ x_17 = (-1) := h_24
      have r_26 := ne_lo (lo := 0) n_25 rx_17 rc_m1 rfl (by decide)
      refine g_lo (is := [0, 1, 2]) (lo2 := [(0, .ref x), (1, .int 7), (2, .int a1)]) rfl ?_
      exact j_46 I_21 J hU_22 hF_23 hG x_17 (r_26) (n_25) (kp_s hI_21)
    · skip
      have r_27 := (⟨(rx_17).1, (eq_rg (h_24) rc_m1).2⟩ : Rg (-1) (-1) x_17)
      refine g_aload_n C 0 dX12_isOne_38 rfl rfl ?_
      refine g_iconst C (v := 3) dX12_isOne_39 (by decide) ?_
      refine g_callVI C K (c_X12_bad W9 hLx hkx 3 (rg_w rc_3 (by decide) (by decide)) hU_22) hLx hkx (by decide) rfl v_12_146 rfl ⟨rfl, rfl⟩ ⟨Nat.le_of_ble_eq_true rfl, Nat.le_of_ble_eq_true rfl⟩ (Nat.le_of_ble_eq_true rfl) ⟨Nat.le_of_ble_eq_true rfl, Nat.le_of_ble_eq_true rfl⟩ dX12_isOne_40 rfl (st := []) (fun x_28 I_29 J_30 h_31 => ?_)
      obtain ⟨hUI_29, hFI_29, hGJ_30, rx_28⟩ := h_31
      have hF_32 := fq_tr hF_23 hFI_29 (by decide)
      have hG_33 := fq_tr hG hGJ_30 (by decide)
      refine g_if_eq C (tgt := 50) dX12_isOne_43 (by decide) (fun h_34 => ?_) (fun h_34 => ?_)
      · skip
        refine g_iconst C (v := 0) dX12_isOne_50 (by decide) ?_
        exact g_zret (ty := .boolean) (r := 0) B K rfl (rfl) ⟨hUI_29, hF_32, hG_33, rg_w rc_0 (by decide) (by decide), (fun q => absurd rfl q)⟩ dX12_isOne_51
      · skip
        exact ne_no (h_34) rx_28 rc_0
  · skip
    have r_35 := (⟨(rx_9).1, (eq_rg (h_13) rc_0).2⟩ : Rg 0 0 x_9)
    refine g_aload_n C 0 dX12_isOne_7 rfl rfl ?_
    refine g_iconst C (v := 1) dX12_isOne_8 (by decide) ?_
    refine g_callVI C K (c_X12_bad W9 hLx hkx 1 (rg_w rc_1 (by decide) (by decide)) hU) hLx hkx (by decide) rfl v_12_146 rfl ⟨rfl, rfl⟩ ⟨Nat.le_of_ble_eq_true rfl, Nat.le_of_ble_eq_true rfl⟩ (Nat.le_of_ble_eq_true rfl) ⟨Nat.le_of_ble_eq_true rfl, Nat.le_of_ble_eq_true rfl⟩ dX12_isOne_9 rfl (st := []) (fun x_36 I_37 J_38 h_39 => ?_)
    obtain ⟨hUI_37, hFI_37, hGJ_38, rx_36⟩ := h_39
    have hF_40 := fq_tr hF hFI_37 (by decide)
    have hG_41 := fq_tr hG hGJ_38 (by decide)
    exact g_zret (ty := .boolean) (r := x_36) B K rfl (nar_z (rg_w rx_36 (by decide) (by decide))) ⟨hUI_37, hF_40, hG_41, rg_w rx_36 (by decide) (by decide), (fun q => ne_no q rx_36 rc_0)⟩ dX12_isOne_12
set_option maxRecDepth 100000 in
set_option maxHeartbeats 8000000 in
theorem c_X12_put_30_71 {l : Launch} {D : va_G} {cy : Nat → ClassId} {L : List Nat} {κ ln : Nat → Nat} {R : Nat → Nat → Option Nat} {I : Nat → Nat → Int32} {J : Nat → Nat → Int64} {ow : Nat → Nat × Nat} (W9 : ∀ a ∈ L, Shp L κ ln R ow a) {x : Nat} (hLx : x ∈ L) (hkx : κ x = 12) (a0 : Int32) (a1 : Int32) (ra0 : Rg 30 71 a0) (ra1 : Rg 0 1 a1) (hU : Iw L κ R ow I) (hg : ¬ a1 = 0 → Rg 0 40 (I x 13)) : CtI l yX12_put cX12_put 3 (some .boolean) { frames := 0, cells := 0, slots := 0, locals := 0 } D cy L κ ln R I J [.ref x, .int a0, .int a1] (fun r I2 J2 => Iw L κ R ow I2 ∧ Fq L κ ow [83500] I I2 ∧ Fq L κ ow [] J J2 ∧ Rg 0 1 r ∧ r = a1 ∧ (∀ a, R x 15 = some a → I2 a 0 = I a 0 ∧ I2 a 1 = I a 1)) := by
  refine CtI.of (by decide +kernel) (Nat.le_of_ble_eq_true rfl) ?_
  intro p e s m below meth c B K
  have C := B.1
  have hF : Fq L κ ow [83500] I I := fq_rf
  have hG : Fq L κ ow [] J J := fq_rf
  obtain ⟨b_1, hb_1, hb_1L, hb_1k, hb_1n, hb_1o⟩ := shp_a (W9 x hLx) hkx 15 14 72 rfl (by decide)
  refine g_lo (is := [0, 1, 2]) (lo2 := [(0, .ref x), (1, .int a0), (2, .int a1)]) rfl ?_
  refine g_iload_n C 2 dX12_put_0 rfl rfl ?_
  refine g_if_eq C (tgt := 14) dX12_put_1 (by decide) (fun h_2 => ?_) (fun h_2 => ?_)
  · skip
    have r_3 := (⟨(ra1).1, (eq_rg (h_2) rc_0).2⟩ : Rg 0 0 a1)
    refine g_iload_n C 2 dX12_put_14 rfl rfl ?_
    exact g_zret (ty := .boolean) (r := a1) B K rfl (nar_z (rg_w r_3 (by decide) (by decide))) ⟨hU, hF, hG, rg_w r_3 (by decide) (by decide), rfl, (fun a ha => ⟨rfl, rfl⟩)⟩ dX12_put_15
  · skip
    have n_4 : ¬ a1 = 0 := h_2
    have r_5 := ne_lo (lo := 1) n_4 ra1 rc_0 rfl (by decide)
    obtain ⟨x_6, hx_6, rx_6⟩ := ex_getw (I := I) (a := x) (j := 13) (lo := (-2147483648)) (hi := 2147483647) hU.1 hLx (ro_o hkx (by decide)) rfl
    have r_7 := rg_i rx_6 (eq_rg hx_6.symm (hg n_4)) (lo := 0) (hi := 40) (by decide) (by decide)
    refine g_aload_n C 0 dX12_put_4 rfl rfl ?_
    refine g_getR C K hLx hkx f_12_16 hb_1 dX12_put_5 ?_
    refine g_iload_n C 1 dX12_put_8 rfl rfl ?_
    refine g_aload_n C 0 dX12_put_9 rfl rfl ?_
    refine g_getI C K hLx hkx f_12_153 (v := x_6) hx_6 dX12_put_10 ?_
    refine h_iast C K hb_1L hb_1k (a0.toNatClampNeg) (rfl) (ix_0 ra0 (by decide)) (ix_lt ra0 (by decide) hb_1n (by decide)) dX12_put_13 (fun I_8 hI_8 => ?_)
    have hU_9 := iw_put W9 hU hI_8 (ro_a hb_1k (by decide) hb_1o hkx rfl) (lo := 0) (hi := 40) (bn_835.trans (zq_30 (ix_k (lo := 30) (hi := 71) ra0 (by decide) (by decide) (by decide)))) (r_7) rfl
    have hF_10 := fq_puta hF hI_8 (ro_a hb_1k (by decide) hb_1o hkx rfl) (by decide) (by decide)
    refine g_iload_n C 2 dX12_put_14 rfl rfl ?_
    exact g_zret (ty := .boolean) (r := a1) B K rfl (nar_z (rg_w r_5 (by decide) (by decide))) ⟨hU_9, hF_10, hG, rg_w r_5 (by decide) (by decide), rfl, (fun a ha => by rw [hb_1] at ha; cases ha; exact ⟨kp_j hI_8 (ix_ne ra0 (by decide)) rfl, kp_j hI_8 (ix_ne ra0 (by decide)) rfl⟩)⟩ dX12_put_15
set_option maxRecDepth 100000 in
set_option maxHeartbeats 8000000 in
theorem c_X12_readNumber_1_40 {l : Launch} {D : va_G} {cy : Nat → ClassId} {L : List Nat} {κ ln : Nat → Nat} {R : Nat → Nat → Option Nat} {I : Nat → Nat → Int32} {J : Nat → Nat → Int64} {ow : Nat → Nat × Nat} (W9 : ∀ a ∈ L, Shp L κ ln R ow a) {x : Nat} (hLx : x ∈ L) (hkx : κ x = 12) (hU : Iw L κ R ow I) : CtI l yX12_readNumber cX12_readNumber 3 (some .boolean) { frames := 2, cells := 0, slots := 0, locals := 45 } D cy L κ ln R I J [.ref x, .int 1, .int 40] (fun r I2 J2 => Iw L κ R ow I2 ∧ Fq L κ ow [1205, 1206, 1207, 1208, 1209, 1210, 1211, 1213] I I2 ∧ Fq L κ ow [1212] J J2 ∧ Rg 0 1 r ∧ (Pg_ x I I2 ∧ (¬ r = 0 → Ps_ x I I2)) ∧ (¬ r = 0 → Rg 1 40 (I2 x 13))) := by
  refine CtI.of (by decide +kernel) (Nat.le_of_ble_eq_true rfl) ?_
  intro p e s m below meth c B K
  have C := B.1
  have hF : Fq L κ ow [1205, 1206, 1207, 1208, 1209, 1210, 1211, 1213] I I := fq_rf
  have hG : Fq L κ ow [1212] J J := fq_rf
  refine g_lo (is := [0, 1, 2]) (lo2 := [(0, .ref x), (1, .int 1), (2, .int 40)]) rfl ?_
  refine g_aload_n C 0 dX12_readNumber_0 rfl rfl ?_
  obtain ⟨x_1, hx_1, rx_1⟩ := ex_getw (I := I) (a := x) (j := 7) (lo := 0) (hi := 4) hU.1 hLx (ro_o hkx (by decide)) rfl
  refine g_getI C K hLx hkx f_12_104 (v := x_1) hx_1 dX12_readNumber_1 ?_
  refine g_iconst C (v := 3) dX12_readNumber_4 (by decide) ?_
  refine g_icmp_eq C (tgt := 14) dX12_readNumber_5 (by decide) (fun h_2 => ?_) (fun h_2 => ?_)
  · skip
    have r_3 := (⟨(eq_rg (h_2) rc_3).1, (eq_rg (h_2) rc_3).2⟩ : Rg 3 3 x_1)
    refine g_aload_n C 0 dX12_readNumber_14 rfl rfl ?_
    obtain ⟨x_4, hx_4, rx_4⟩ := ex_getw (I := I) (a := x) (j := 8) (lo := (-2147483648)) (hi := 2147483647) hU.1 hLx (ro_o hkx (by decide)) rfl
    refine g_getI C K hLx hkx f_12_121 (v := x_4) hx_4 dX12_readNumber_15 ?_
    refine g_iload_n C 1 dX12_readNumber_18 rfl rfl ?_
    refine g_iload_n C 2 dX12_readNumber_19 rfl rfl ?_
    refine g_callSI C K (c_X12_isIn W9 x_4 1 40 (rg_w rc_1 (by decide) (by decide)) (rg_w rc_40 (by decide) (by decide)) hU) s_12_149 rfl ⟨rfl, rfl⟩ ⟨Nat.le_of_ble_eq_true rfl, Nat.le_of_ble_eq_true rfl⟩ (Nat.le_of_ble_eq_true rfl) ⟨Nat.le_of_ble_eq_true rfl, Nat.le_of_ble_eq_true rfl⟩ dX12_readNumber_20 rfl (st := []) (fun x_5 I_6 J_7 h_8 => ?_)
    obtain ⟨rfl, rfl, rx_5, ex_5⟩ := h_8
    refine g_if_ne C (tgt := 32) dX12_readNumber_23 (by decide) (fun h_9 => ?_) (fun h_9 => ?_)
    · skip
      have n_10 : ¬ x_5 = 0 := h_9
      have r_11 := ne_lo (lo := 1) n_10 rx_5 rc_0 rfl (by decide)
      have r_12 := le_r (((ex_5.1) n_10)) rc_1 rx_4
      have r_13 := le_l (((ex_5.2) n_10)) r_12 rc_40
      refine g_aload_n C 0 dX12_readNumber_32 rfl rfl ?_
      refine g_aload_n C 0 dX12_readNumber_33 rfl rfl ?_
      refine g_getI C K hLx hkx f_12_121 (v := x_4) hx_4 dX12_readNumber_34 ?_
      refine h_putI C K hLx hkx f_12_153 p_12_13 dX12_readNumber_37 (fun I_14 hI_14 => ?_)
      have hU_15 := iw_put W9 hU hI_14 (ro_o hkx (by decide)) (lo := (-2147483648)) (hi := 2147483647) (rfl) (rg_all _) rfl
      have hF_16 := fq_puto hF hI_14 hkx (by decide) (by decide)
      refine g_aload_n C 0 dX12_readNumber_40 rfl rfl ?_
      refine g_callVV C K (c_X12_go W9 hLx hkx   hU_15) hLx hkx (by decide) rfl v_12_156 rfl ⟨rfl, rfl⟩ ⟨Nat.le_of_ble_eq_true rfl, Nat.le_of_ble_eq_true rfl⟩ (Nat.le_of_ble_eq_true rfl) ⟨Nat.le_of_ble_eq_true rfl, Nat.le_of_ble_eq_true rfl⟩ dX12_readNumber_41 rfl (st := []) (fun I_18 J_19 h_20 => ?_)
      obtain ⟨hUI_18, hFI_18, hGJ_19, ex_17⟩ := h_20
      have hF_21 := fq_tr hF_16 hFI_18 (by decide)
      have hG_22 := fq_tr hG hGJ_19 (by decide)
      refine g_iconst C (v := 1) dX12_readNumber_44 (by decide) ?_
      exact g_zret (ty := .boolean) (r := 1) B K rfl (rfl) ⟨hUI_18, hF_21, hG_22, rg_w rc_1 (by decide) (by decide), ⟨(pg_s (ps_t2 (pg_u pg_rf hI_14 (Or.inr (by decide)) (Or.inr (by decide))) ex_17)), fun _ => (ps_t2 (pg_u pg_rf hI_14 (Or.inr (by decide)) (Or.inr (by decide))) ex_17)⟩, (fun _ => eq_rg (fq_at hFI_18 hLx hkx (by decide) (by decide) (kp_s hI_14)) (r_13))⟩ dX12_readNumber_45
    · skip
      have r_23 := (⟨(rx_5).1, (eq_rg (h_9) rc_0).2⟩ : Rg 0 0 x_5)
      refine g_aload_n C 0 dX12_readNumber_26 rfl rfl ?_
      refine g_iconst C (v := 2) dX12_readNumber_27 (by decide) ?_
      refine g_callVI C K (c_X12_bad W9 hLx hkx 2 (rg_w rc_2 (by decide) (by decide)) hU) hLx hkx (by decide) rfl v_12_146 rfl ⟨rfl, rfl⟩ ⟨Nat.le_of_ble_eq_true rfl, Nat.le_of_ble_eq_true rfl⟩ (Nat.le_of_ble_eq_true rfl) ⟨Nat.le_of_ble_eq_true rfl, Nat.le_of_ble_eq_true rfl⟩ dX12_readNumber_28 rfl (st := []) (fun x_24 I_25 J_26 h_27 => ?_)
      obtain ⟨hUI_25, hFI_25, hGJ_26, rx_24⟩ := h_27
      have hF_28 := fq_tr hF hFI_25 (by decide)
      have hG_29 := fq_tr hG hGJ_26 (by decide)
      exact g_zret (ty := .boolean) (r := x_24) B K rfl (nar_z (rg_w rx_24 (by decide) (by decide))) ⟨hUI_25, hF_28, hG_29, rg_w rx_24 (by decide) (by decide), ⟨(pg_fq pg_rf hFI_25 hLx hkx (by decide) (by decide)), fun q => ne_no q rx_24 rc_0⟩, (fun q => ne_no q rx_24 rc_0)⟩ dX12_readNumber_31
  · skip
    have n_30 : ¬ x_1 = 3 := h_2
    refine g_aload_n C 0 dX12_readNumber_8 rfl rfl ?_
    refine g_iconst C (v := 1) dX12_readNumber_9 (by decide) ?_
    refine g_callVI C K (c_X12_bad W9 hLx hkx 1 (rg_w rc_1 (by decide) (by decide)) hU) hLx hkx (by decide) rfl v_12_146 rfl ⟨rfl, rfl⟩ ⟨Nat.le_of_ble_eq_true rfl, Nat.le_of_ble_eq_true rfl⟩ (Nat.le_of_ble_eq_true rfl) ⟨Nat.le_of_ble_eq_true rfl, Nat.le_of_ble_eq_true rfl⟩ dX12_readNumber_10 rfl (st := []) (fun x_31 I_32 J_33 h_34 => ?_)
    obtain ⟨hUI_32, hFI_32, hGJ_33, rx_31⟩ := h_34
    have hF_35 := fq_tr hF hFI_32 (by decide)
    have hG_36 := fq_tr hG hGJ_33 (by decide)
    exact g_zret (ty := .boolean) (r := x_31) B K rfl (nar_z (rg_w rx_31 (by decide) (by decide))) ⟨hUI_32, hF_35, hG_36, rg_w rx_31 (by decide) (by decide), ⟨(pg_fq pg_rf hFI_32 hLx hkx (by decide) (by decide)), fun q => ne_no q rx_31 rc_0⟩, (fun q => ne_no q rx_31 rc_0)⟩ dX12_readNumber_13
set_option maxRecDepth 100000 in
set_option maxHeartbeats 8000000 in
theorem c_X12_readPlate {l : Launch} {D : va_G} {cy : Nat → ClassId} {L : List Nat} {κ ln : Nat → Nat} {R : Nat → Nat → Option Nat} {I : Nat → Nat → Int32} {J : Nat → Nat → Int64} {ow : Nat → Nat × Nat} (W9 : ∀ a ∈ L, Shp L κ ln R ow a) {x : Nat} (hLx : x ∈ L) (hkx : κ x = 12) (hU : Iw L κ R ow I) : CtI l yX12_readPlate cX12_readPlate 2 (some .boolean) { frames := 5, cells := 0, slots := 0, locals := 113 } D cy L κ ln R I J [.ref x] (fun r I2 J2 => Iw L κ R ow I2 ∧ Fq L κ ow [1205, 1206, 1207, 1208, 1209, 1210, 1211, 1213, 83500] I I2 ∧ Fq L κ ow [1212] J J2 ∧ Rg 0 1 r ∧ (Pg_ x I I2 ∧ (¬ r = 0 → Ps_ x I I2))) := by
  refine CtI.of (by decide +kernel) (Nat.le_of_ble_eq_true rfl) ?_
  intro p e s m below meth c B K
  have C := B.1
  have hF : Fq L κ ow [1205, 1206, 1207, 1208, 1209, 1210, 1211, 1213, 83500] I I := fq_rf
  have hG : Fq L κ ow [1212] J J := fq_rf
  obtain ⟨b_1, hb_1, hb_1L, hb_1k, hb_1n, hb_1o⟩ := shp_a (W9 x hLx) hkx 15 14 72 rfl (by decide)
  refine g_lo (is := [0]) (lo2 := [(0, .ref x)]) rfl ?_
  refine g_aload_n C 0 dX12_readPlate_0 rfl rfl ?_
  refine g_callVV C K (c_X12_go W9 hLx hkx   hU) hLx hkx (by decide) rfl v_12_156 rfl ⟨rfl, rfl⟩ ⟨Nat.le_of_ble_eq_true rfl, Nat.le_of_ble_eq_true rfl⟩ (Nat.le_of_ble_eq_true rfl) ⟨Nat.le_of_ble_eq_true rfl, Nat.le_of_ble_eq_true rfl⟩ dX12_readPlate_1 rfl (st := []) (fun I_3 J_4 h_5 => ?_)
  obtain ⟨hUI_3, hFI_3, hGJ_4, ex_2⟩ := h_5
  have hF_6 := fq_tr hF hFI_3 (by decide)
  have hG_7 := fq_tr hG hGJ_4 (by decide)
  refine g_aload_n C 0 dX12_readPlate_4 rfl rfl ?_
  refine g_iconst C (v := 0) dX12_readPlate_5 (by decide) ?_
  refine g_aload_n C 0 dX12_readPlate_6 rfl rfl ?_
  refine g_getR C K hLx hkx f_12_16 hb_1 dX12_readPlate_7 ?_
  refine g_iconst C (v := 0) dX12_readPlate_10 (by decide) ?_
  obtain ⟨x_8, hx_8, rx_8⟩ := ex_getw (I := I_3) (a := b_1) (j := 0) (lo := 0) (hi := 7) hUI_3.1 hb_1L (ro_a hb_1k (by decide) hb_1o hkx rfl) (by decide)
  refine h_iald C K hb_1L hb_1k (v := x_8) (0) (by decide) (by decide) (by rw [hb_1n]; decide) hx_8 dX12_readPlate_11 ?_
  obtain ⟨x_9, hx_9, rx_9⟩ := ex_getw (I := I_3) (a := x) (j := 13) (lo := (-2147483648)) (hi := 2147483647) hUI_3.1 hLx (ro_o hkx (by decide)) rfl
  refine g_callVI C K (c_X12_readOne_0 W9 hLx hkx x_8 (rx_8) hUI_3) hLx hkx (by decide) rfl v_12_194 rfl ⟨rfl, rfl⟩ ⟨Nat.le_of_ble_eq_true rfl, Nat.le_of_ble_eq_true rfl⟩ (Nat.le_of_ble_eq_true rfl) ⟨Nat.le_of_ble_eq_true rfl, Nat.le_of_ble_eq_true rfl⟩ dX12_readPlate_12 rfl (st := []) (fun x_10 I_11 J_12 h_13 => ?_)
  obtain ⟨hUI_11, hFI_11, hGJ_12, rx_10, ex_10⟩ := h_13
  have hF_14 := fq_tr hF_6 hFI_11 (by decide)
  have hG_15 := fq_tr hG_7 hGJ_12 (by decide)
  obtain ⟨x_16, hx_16, rx_16⟩ := ex_getw (I := I_11) (a := x) (j := 13) (lo := (-2147483648)) (hi := 2147483647) hUI_11.1 hLx (ro_o hkx (by decide)) rfl
  have q_17 := hx_16
  refine g_if_ne C (tgt := 20) dX12_readPlate_15 (by decide) (fun h_18 => ?_) (fun h_18 => ?_)
  · skip
    have n_19 : ¬ x_10 = 0 := h_18
    have r_20 := ne_lo (lo := 1) n_19 rx_10 rc_0 rfl (by decide)
    have r_21 := rg_i rx_16 (eq_rg q_17.symm ((ex_10.2) n_19)) (lo := 0) (hi := 6) (by decide) (by decide)
    refine g_bipush C (v := 30) dX12_readPlate_20 (by decide) ?_
    refine g_bipush C (v := 6) dX12_readPlate_22 (by decide) ?_
    refine g_aload_n C 0 dX12_readPlate_24 rfl rfl ?_
    refine g_getI C K hLx hkx f_12_153 (v := x_16) hx_16 dX12_readPlate_25 ?_
    obtain ⟨x_22, hx_22, rx_22, tx_22⟩ := ex_mulT 0 36 rc_6 r_21 (by decide) (by decide) (by decide) (by decide) (by decide)
    refine g_imul C (v := x_22) dX12_readPlate_28 hx_22 ?_
    obtain ⟨x_23, hx_23, rx_23, tx_23⟩ := ex_add 30 66 rc_30 rx_22 (by decide) (by decide) (by decide) (by decide)
    refine g_iadd C (v := x_23) dX12_readPlate_29 hx_23 ?_
    refine g_istore_n C dX12_readPlate_30 rfl (by decide) (lo2 := [(1, .int x_23), (0, .ref x)]) rfl ?_
    refine g_aload_n C 1 dX12_readPlate_31 rfl rfl ?_
    refine g_bipush C (v := 7) dX12_readPlate_32 (by decide) ?_
    refine g_aload_n C 1 dX12_readPlate_34 rfl rfl ?_
    refine g_getR C K hLx hkx f_12_16 hb_1 dX12_readPlate_35 ?_
    refine g_iconst C (v := 1) dX12_readPlate_38 (by decide) ?_
    obtain ⟨x_24, hx_24, rx_24⟩ := ex_getw (I := I_11) (a := b_1) (j := 1) (lo := 0) (hi := 6) hUI_11.1 hb_1L (ro_a hb_1k (by decide) hb_1o hkx rfl) (by decide)
    refine h_iald C K hb_1L hb_1k (v := x_24) (1) (by decide) (by decide) (by rw [hb_1n]; decide) hx_24 dX12_readPlate_39 ?_
    refine g_callVI C K (c_X12_isOne_7 W9 hLx hkx x_24 (rx_24) hUI_11) hLx hkx (by decide) rfl v_12_174 rfl ⟨rfl, rfl⟩ ⟨Nat.le_of_ble_eq_true rfl, Nat.le_of_ble_eq_true rfl⟩ (Nat.le_of_ble_eq_true rfl) ⟨Nat.le_of_ble_eq_true rfl, Nat.le_of_ble_eq_true rfl⟩ dX12_readPlate_40 rfl (st := []) (fun x_25 I_26 J_27 h_28 => ?_)
    obtain ⟨hUI_26, hFI_26, hGJ_27, rx_25, ex_25⟩ := h_28
    have hF_29 := fq_tr hF_14 hFI_26 (by decide)
    have hG_30 := fq_tr hG_15 hGJ_27 (by decide)
    obtain ⟨x_31, hx_31, rx_31⟩ := ex_getw (I := I_26) (a := x) (j := 13) (lo := (-2147483648)) (hi := 2147483647) hUI_26.1 hLx (ro_o hkx (by decide)) rfl
    have q_32 := hx_31
    refine g_if_ne C (tgt := 48) dX12_readPlate_43 (by decide) (fun h_33 => ?_) (fun h_33 => ?_)
    · skip
      have n_34 : ¬ x_25 = 0 := h_33
      have r_35 := ne_lo (lo := 1) n_34 rx_25 rc_0 rfl (by decide)
      have r_36 := rg_i rx_31 (eq_rg q_32.symm ((ex_25) n_34)) (lo := 0) (hi := 5) (by decide) (by decide)
      refine g_iload_n C 0 dX12_readPlate_48 rfl rfl ?_
      refine g_aload_n C 1 dX12_readPlate_49 rfl rfl ?_
      refine g_getI C K hLx hkx f_12_153 (v := x_31) hx_31 dX12_readPlate_50 ?_
      obtain ⟨x_37, hx_37, rx_37, tx_37⟩ := ex_add 30 71 rx_23 r_36 (by decide) (by decide) (by decide) (by decide)
      refine g_iadd C (v := x_37) dX12_readPlate_53 hx_37 ?_
      refine g_istore_n C dX12_readPlate_54 rfl (by decide) (lo2 := [(1, .int x_37), (0, .ref x)]) rfl ?_
      refine g_aload_n C 1 dX12_readPlate_55 rfl rfl ?_
      refine g_getR C K hLx hkx f_12_16 hb_1 dX12_readPlate_56 ?_
      refine g_iload_n C 0 dX12_readPlate_59 rfl rfl ?_
      obtain ⟨x_38, hx_38, rx_38⟩ := ex_getw (I := I_26) (a := b_1) (j := x_37.toNatClampNeg) (lo := 0) (hi := 40) hUI_26.1 hb_1L (ro_a hb_1k (by decide) hb_1o hkx rfl) (bn_835.trans (zq_30 (ix_k (lo := 30) (hi := 71) rx_37 (by decide) (by decide) (by decide))))
      refine h_iald C K hb_1L hb_1k (v := x_38) (x_37.toNatClampNeg) (rfl) (ix_0 rx_37 (by decide)) (ix_lt rx_37 (by decide) hb_1n (by decide)) hx_38 dX12_readPlate_60 ?_
      refine g_if_le C (tgt := 70) dX12_readPlate_61 (by decide) (fun h_39 => ?_) (fun h_39 => ?_)
      · skip
        have r_40 := le_l (h_39) rx_38 rc_0
        refine g_aload_n C 1 dX12_readPlate_70 rfl rfl ?_
        refine g_callVV C K (c_X12_go W9 hLx hkx   hUI_26) hLx hkx (by decide) rfl v_12_156 rfl ⟨rfl, rfl⟩ ⟨Nat.le_of_ble_eq_true rfl, Nat.le_of_ble_eq_true rfl⟩ (Nat.le_of_ble_eq_true rfl) ⟨Nat.le_of_ble_eq_true rfl, Nat.le_of_ble_eq_true rfl⟩ dX12_readPlate_71 rfl (st := []) (fun I_42 J_43 h_44 => ?_)
        obtain ⟨hUI_42, hFI_42, hGJ_43, ex_41⟩ := h_44
        have hF_45 := fq_tr hF_29 hFI_42 (by decide)
        have hG_46 := fq_tr hG_30 hGJ_43 (by decide)
        refine g_aload_n C 1 dX12_readPlate_74 rfl rfl ?_
        refine g_iload_n C 0 dX12_readPlate_75 rfl rfl ?_
        refine g_aload_n C 1 dX12_readPlate_76 rfl rfl ?_
        refine g_iconst C (v := 1) dX12_readPlate_77 (by decide) ?_
        refine g_bipush C (v := 40) dX12_readPlate_78 (by decide) ?_
        refine g_callVI C K (c_X12_readNumber_1_40 W9 hLx hkx   hUI_42) hLx hkx (by decide) rfl v_12_184 rfl ⟨rfl, rfl⟩ ⟨Nat.le_of_ble_eq_true rfl, Nat.le_of_ble_eq_true rfl⟩ (Nat.le_of_ble_eq_true rfl) ⟨Nat.le_of_ble_eq_true rfl, Nat.le_of_ble_eq_true rfl⟩ dX12_readPlate_80 rfl (st := [.int x_37, .ref x]) (fun x_47 I_48 J_49 h_50 => ?_)
        obtain ⟨hUI_48, hFI_48, hGJ_49, rx_47, ex_47⟩ := h_50
        have hF_51 := fq_tr hF_45 hFI_48 (by decide)
        have hG_52 := fq_tr hG_46 hGJ_49 (by decide)
        obtain ⟨x_53, hx_53, rx_53⟩ := ex_getw (I := I_48) (a := x) (j := 13) (lo := (-2147483648)) (hi := 2147483647) hUI_48.1 hLx (ro_o hkx (by decide)) rfl
        have q_54 := hx_53
        have q_55 := (fq_ar hFI_48 hb_1L (ro_a hb_1k (by decide) hb_1o hkx rfl) (by decide) (by decide) (fq_ar hFI_42 hb_1L (ro_a hb_1k (by decide) hb_1o hkx rfl) (by decide) (by decide) (fq_ar hFI_26 hb_1L (ro_a hb_1k (by decide) hb_1o hkx rfl) (by decide) (by decide) (fq_ar hFI_11 hb_1L (ro_a hb_1k (by decide) hb_1o hkx rfl) (by decide) (by decide) hx_8))))
        have q_56 := (fq_ar hFI_48 hb_1L (ro_a hb_1k (by decide) hb_1o hkx rfl) (by decide) (by decide) (fq_ar hFI_42 hb_1L (ro_a hb_1k (by decide) hb_1o hkx rfl) (by decide) (by decide) (fq_ar hFI_26 hb_1L (ro_a hb_1k (by decide) hb_1o hkx rfl) (by decide) (by decide) hx_24)))
        refine g_callVI C K (c_X12_put_30_71 W9 hLx hkx x_37 x_47 (rx_37) (rx_47) hUI_48  (fun hq => by have n_57 : ¬ x_47 = 0 := hq; have r_58 := ne_lo (lo := 1) n_57 rx_47 rc_0 rfl (by decide); have r_59 := rg_i rx_53 (eq_rg q_54.symm ((ex_47.2) n_57)) (lo := 1) (hi := 40) (by decide) (by decide); exact eq_rg hx_53 (rg_w r_59 (by decide) (by decide)))) hLx hkx (by decide) rfl v_12_187 rfl ⟨rfl, rfl⟩ ⟨Nat.le_of_ble_eq_true rfl, Nat.le_of_ble_eq_true rfl⟩ (Nat.le_of_ble_eq_true rfl) ⟨Nat.le_of_ble_eq_true rfl, Nat.le_of_ble_eq_true rfl⟩ dX12_readPlate_83 rfl (st := []) (fun x_60 I_61 J_62 h_63 => ?_)
        obtain ⟨hUI_61, hFI_61, hGJ_62, rx_60, ex_60⟩ := h_63
        have hF_64 := fq_tr hF_51 hFI_61 (by decide)
        have hG_65 := fq_tr hG_52 hGJ_62 (by decide)
        have q_66 := ((ex_60.2 _ hb_1).1).trans q_55
        have q_67 := ((ex_60.2 _ hb_1).2).trans q_56
        exact g_zret (ty := .boolean) (r := x_60) B K rfl (nar_z (rx_60)) ⟨hUI_61, hF_64, hG_65, rx_60, ⟨(pg_fq (pg_t (pg_s (ps_t2 (pg_fq (pg_t (pg_s (ps_t2 pg_rf ex_2)) ex_10.1.1) hFI_26 hLx hkx (by decide) (by decide)) ex_41)) ex_47.1.1) hFI_61 hLx hkx (by decide) (by decide)), fun hq => by have n_68 : ¬ x_60 = 0 := hq; have r_69 := ne_lo (lo := 1) n_68 rx_60 rc_0 rfl (by decide); have n_70 : ¬ x_47 = 0 := (fun q => n_68 (Eq.trans ex_60.1 q)); have r_71 := ne_lo (lo := 1) n_70 rx_47 rc_0 rfl (by decide); have r_72 := rg_i rx_53 (eq_rg q_54.symm ((ex_47.2) n_70)) (lo := 1) (hi := 40) (by decide) (by decide); exact (ps_fq (ps_t2 (pg_s (ps_t2 (pg_fq (pg_t (pg_s (ps_t2 pg_rf ex_2)) ex_10.1.1) hFI_26 hLx hkx (by decide) (by decide)) ex_41)) (ex_47.1.2 n_70)) hFI_61 hLx hkx (by decide) (by decide))⟩⟩ dX12_readPlate_86
      · skip
        have r_73 := lt_r (lo := 1) (nle h_39) rc_0 rx_38 (by decide)
        refine g_aload_n C 1 dX12_readPlate_64 rfl rfl ?_
        refine g_iconst C (v := 3) dX12_readPlate_65 (by decide) ?_
        refine g_callVI C K (c_X12_bad W9 hLx hkx 3 (rg_w rc_3 (by decide) (by decide)) hUI_26) hLx hkx (by decide) rfl v_12_146 rfl ⟨rfl, rfl⟩ ⟨Nat.le_of_ble_eq_true rfl, Nat.le_of_ble_eq_true rfl⟩ (Nat.le_of_ble_eq_true rfl) ⟨Nat.le_of_ble_eq_true rfl, Nat.le_of_ble_eq_true rfl⟩ dX12_readPlate_66 rfl (st := []) (fun x_74 I_75 J_76 h_77 => ?_)
        obtain ⟨hUI_75, hFI_75, hGJ_76, rx_74⟩ := h_77
        have hF_78 := fq_tr hF_29 hFI_75 (by decide)
        have hG_79 := fq_tr hG_30 hGJ_76 (by decide)
        exact g_zret (ty := .boolean) (r := x_74) B K rfl (nar_z (rg_w rx_74 (by decide) (by decide))) ⟨hUI_75, hF_78, hG_79, rg_w rx_74 (by decide) (by decide), ⟨(pg_fq (pg_fq (pg_t (pg_s (ps_t2 pg_rf ex_2)) ex_10.1.1) hFI_26 hLx hkx (by decide) (by decide)) hFI_75 hLx hkx (by decide) (by decide)), fun q => ne_no q rx_74 rc_0⟩⟩ dX12_readPlate_69
    · skip
      have r_80 := (⟨(rx_25).1, (eq_rg (h_33) rc_0).2⟩ : Rg 0 0 x_25)
      refine g_iconst C (v := 0) dX12_readPlate_46 (by decide) ?_
      exact g_zret (ty := .boolean) (r := 0) B K rfl (rfl) ⟨hUI_26, hF_29, hG_30, rg_w rc_0 (by decide) (by decide), ⟨(pg_fq (pg_t (pg_s (ps_t2 pg_rf ex_2)) ex_10.1.1) hFI_26 hLx hkx (by decide) (by decide)), fun q => absurd rfl q⟩⟩ dX12_readPlate_47
  · skip
    have r_81 := (⟨(rx_10).1, (eq_rg (h_18) rc_0).2⟩ : Rg 0 0 x_10)
    refine g_iconst C (v := 0) dX12_readPlate_18 (by decide) ?_
    exact g_zret (ty := .boolean) (r := 0) B K rfl (rfl) ⟨hUI_11, hF_14, hG_15, rg_w rc_0 (by decide) (by decide), ⟨(pg_t (pg_s (ps_t2 pg_rf ex_2)) ex_10.1.1), fun q => absurd rfl q⟩⟩ dX12_readPlate_19
set_option maxRecDepth 100000 in
set_option maxHeartbeats 8000000 in
theorem c_X12_readLine {l : Launch} {D : va_G} {cy : Nat → ClassId} {L : List Nat} {κ ln : Nat → Nat} {R : Nat → Nat → Option Nat} {I : Nat → Nat → Int32} {J : Nat → Nat → Int64} {ow : Nat → Nat × Nat} (W9 : ∀ a ∈ L, Shp L κ ln R ow a) {x : Nat} (hLx : x ∈ L) (hkx : κ x = 12) (hU : Iw L κ R ow I) : CtI l yX12_readLine cX12_readLine 1 (some .boolean) { frames := 6, cells := 0, slots := 0, locals := 134 } D cy L κ ln R I J [.ref x] (fun r I2 J2 => Iw L κ R ow I2 ∧ Fq L κ ow [1205, 1206, 1207, 1208, 1209, 1210, 1211, 1213, 1224, 1225, 83500] I I2 ∧ Fq L κ ow [1212, 84000] J J2 ∧ Rg 0 1 r ∧ (Pg_ x I I2 ∧ (¬ r = 0 → Ps_ x I I2))) := by
  refine CtI.of (by decide +kernel) (Nat.le_of_ble_eq_true rfl) ?_
  intro p e s m below meth c B K
  have C := B.1
  have hF : Fq L κ ow [1205, 1206, 1207, 1208, 1209, 1210, 1211, 1213, 1224, 1225, 83500] I I := fq_rf
  have hG : Fq L κ ow [1212, 84000] J J := fq_rf
  refine g_lo (is := [0]) (lo2 := [(0, .ref x)]) rfl ?_
  refine g_aload_n C 0 dX12_readLine_0 rfl rfl ?_
  refine g_iconst C (v := 0) dX12_readLine_1 (by decide) ?_
  refine g_callVI C K (c_X12_isWord W9 hLx hkx 0 (rg_w rc_0 (by decide) (by decide)) hU) hLx hkx (by decide) rfl v_12_191 rfl ⟨rfl, rfl⟩ ⟨Nat.le_of_ble_eq_true rfl, Nat.le_of_ble_eq_true rfl⟩ (Nat.le_of_ble_eq_true rfl) ⟨Nat.le_of_ble_eq_true rfl, Nat.le_of_ble_eq_true rfl⟩ dX12_readLine_2 rfl (st := []) (fun x_1 I_2 J_3 h_4 => ?_)
  obtain ⟨rfl, rfl, rx_1⟩ := h_4
  refine g_if_eq C (tgt := 13) dX12_readLine_5 (by decide) (fun h_5 => ?_) (fun h_5 => ?_)
  · skip
    have r_6 := (⟨(rx_1).1, (eq_rg (h_5) rc_0).2⟩ : Rg 0 0 x_1)
    refine g_aload_n C 0 dX12_readLine_13 rfl rfl ?_
    refine g_iconst C (v := 1) dX12_readLine_14 (by decide) ?_
    refine g_callVI C K (c_X12_isWord W9 hLx hkx 1 (rg_w rc_1 (by decide) (by decide)) hU) hLx hkx (by decide) rfl v_12_191 rfl ⟨rfl, rfl⟩ ⟨Nat.le_of_ble_eq_true rfl, Nat.le_of_ble_eq_true rfl⟩ (Nat.le_of_ble_eq_true rfl) ⟨Nat.le_of_ble_eq_true rfl, Nat.le_of_ble_eq_true rfl⟩ dX12_readLine_15 rfl (st := []) (fun x_7 I_8 J_9 h_10 => ?_)
    obtain ⟨rfl, rfl, rx_7⟩ := h_10
    refine g_if_eq C (tgt := 26) dX12_readLine_18 (by decide) (fun h_11 => ?_) (fun h_11 => ?_)
    · skip
      have r_12 := (⟨(rx_7).1, (eq_rg (h_11) rc_0).2⟩ : Rg 0 0 x_7)
      refine g_aload_n C 0 dX12_readLine_26 rfl rfl ?_
      refine g_iconst C (v := 3) dX12_readLine_27 (by decide) ?_
      refine g_callVI C K (c_X12_isWord W9 hLx hkx 3 (rg_w rc_3 (by decide) (by decide)) hU) hLx hkx (by decide) rfl v_12_191 rfl ⟨rfl, rfl⟩ ⟨Nat.le_of_ble_eq_true rfl, Nat.le_of_ble_eq_true rfl⟩ (Nat.le_of_ble_eq_true rfl) ⟨Nat.le_of_ble_eq_true rfl, Nat.le_of_ble_eq_true rfl⟩ dX12_readLine_28 rfl (st := []) (fun x_13 I_14 J_15 h_16 => ?_)
      obtain ⟨rfl, rfl, rx_13⟩ := h_16
      refine g_if_eq C (tgt := 39) dX12_readLine_31 (by decide) (fun h_17 => ?_) (fun h_17 => ?_)
      · skip
        have r_18 := (⟨(rx_13).1, (eq_rg (h_17) rc_0).2⟩ : Rg 0 0 x_13)
        refine g_aload_n C 0 dX12_readLine_39 rfl rfl ?_
        refine g_iconst C (v := 4) dX12_readLine_40 (by decide) ?_
        refine g_callVI C K (c_X12_isWord W9 hLx hkx 4 (rg_w rc_4 (by decide) (by decide)) hU) hLx hkx (by decide) rfl v_12_191 rfl ⟨rfl, rfl⟩ ⟨Nat.le_of_ble_eq_true rfl, Nat.le_of_ble_eq_true rfl⟩ (Nat.le_of_ble_eq_true rfl) ⟨Nat.le_of_ble_eq_true rfl, Nat.le_of_ble_eq_true rfl⟩ dX12_readLine_41 rfl (st := []) (fun x_19 I_20 J_21 h_22 => ?_)
        obtain ⟨rfl, rfl, rx_19⟩ := h_22
        refine g_if_eq C (tgt := 52) dX12_readLine_44 (by decide) (fun h_23 => ?_) (fun h_23 => ?_)
        · skip
          have r_24 := (⟨(rx_19).1, (eq_rg (h_23) rc_0).2⟩ : Rg 0 0 x_19)
          refine g_aload_n C 0 dX12_readLine_52 rfl rfl ?_
          refine g_bipush C (v := 8) dX12_readLine_53 (by decide) ?_
          refine g_callVI C K (c_X12_isWord W9 hLx hkx 8 (rg_w rc_8 (by decide) (by decide)) hU) hLx hkx (by decide) rfl v_12_191 rfl ⟨rfl, rfl⟩ ⟨Nat.le_of_ble_eq_true rfl, Nat.le_of_ble_eq_true rfl⟩ (Nat.le_of_ble_eq_true rfl) ⟨Nat.le_of_ble_eq_true rfl, Nat.le_of_ble_eq_true rfl⟩ dX12_readLine_55 rfl (st := []) (fun x_25 I_26 J_27 h_28 => ?_)
          obtain ⟨rfl, rfl, rx_25⟩ := h_28
          refine g_if_ne C (tgt := 67) dX12_readLine_58 (by decide) (fun h_29 => ?_) (fun h_29 => ?_)
          · skip
            have n_30 : ¬ x_25 = 0 := h_29
            have r_31 := ne_lo (lo := 1) n_30 rx_25 rc_0 rfl (by decide)
            refine g_aload_n C 0 dX12_readLine_67 rfl rfl ?_
            obtain ⟨x_32, hx_32, rx_32⟩ := ex_getw (I := I) (a := x) (j := 25) (lo := 0) (hi := 1) hU.1 hLx (ro_o hkx (by decide)) rfl
            refine g_getI C K hLx hkx f_12_213 (v := x_32) hx_32 dX12_readLine_68 ?_
            refine g_if_eq C (tgt := 80) dX12_readLine_71 (by decide) (fun h_33 => ?_) (fun h_33 => ?_)
            · skip
              have r_34 := (⟨(rx_32).1, (eq_rg (h_33) rc_0).2⟩ : Rg 0 0 x_32)
              refine g_aload_n C 0 dX12_readLine_80 rfl rfl ?_
              refine g_iconst C (v := 1) dX12_readLine_81 (by decide) ?_
              refine h_putZ C K hLx hkx f_12_213 p_12_25 (rg_bool (rg_w rc_1 (by decide) (by decide))) dX12_readLine_82 (fun I_35 hI_35 => ?_)
              have hU_36 := iw_put W9 hU hI_35 (ro_o hkx (by decide)) (lo := 0) (hi := 1) (rfl) (rg_w rc_1 (by decide) (by decide)) rfl
              have hF_37 := fq_puto hF hI_35 hkx (by decide) (by decide)
              refine g_aload_n C 0 dX12_readLine_85 rfl rfl ?_
              refine g_callVV C K (c_X12_go W9 hLx hkx   hU_36) hLx hkx (by decide) rfl v_12_156 rfl ⟨rfl, rfl⟩ ⟨Nat.le_of_ble_eq_true rfl, Nat.le_of_ble_eq_true rfl⟩ (Nat.le_of_ble_eq_true rfl) ⟨Nat.le_of_ble_eq_true rfl, Nat.le_of_ble_eq_true rfl⟩ dX12_readLine_86 rfl (st := []) (fun I_39 J_40 h_41 => ?_)
              obtain ⟨hUI_39, hFI_39, hGJ_40, ex_38⟩ := h_41
              have hF_42 := fq_tr hF_37 hFI_39 (by decide)
              have hG_43 := fq_tr hG hGJ_40 (by decide)
              refine g_aload_n C 0 dX12_readLine_89 rfl rfl ?_
              refine g_iconst C (v := 3) dX12_readLine_90 (by decide) ?_
              refine g_aload_n C 0 dX12_readLine_91 rfl rfl ?_
              refine g_iconst C (v := 0) dX12_readLine_92 (by decide) ?_
              refine g_bipush C (v := 9) dX12_readLine_93 (by decide) ?_
              obtain ⟨x_44, hx_44, rx_44⟩ := ex_getw (I := I_39) (a := x) (j := 13) (lo := (-2147483648)) (hi := 2147483647) hUI_39.1 hLx (ro_o hkx (by decide)) rfl
              refine g_callVI C K (c_X12_readNumber_0_9 W9 hLx hkx   hUI_39) hLx hkx (by decide) rfl v_12_184 rfl ⟨rfl, rfl⟩ ⟨Nat.le_of_ble_eq_true rfl, Nat.le_of_ble_eq_true rfl⟩ (Nat.le_of_ble_eq_true rfl) ⟨Nat.le_of_ble_eq_true rfl, Nat.le_of_ble_eq_true rfl⟩ dX12_readLine_95 rfl (st := [.int 3, .ref x]) (fun x_45 I_46 J_47 h_48 => ?_)
              obtain ⟨hUI_46, hFI_46, hGJ_47, rx_45, ex_45⟩ := h_48
              have hF_49 := fq_tr hF_42 hFI_46 (by decide)
              have hG_50 := fq_tr hG_43 hGJ_47 (by decide)
              obtain ⟨x_51, hx_51, rx_51⟩ := ex_getw (I := I_46) (a := x) (j := 13) (lo := (-2147483648)) (hi := 2147483647) hUI_46.1 hLx (ro_o hkx (by decide)) rfl
              have q_52 := hx_51
              refine g_callVI C K (c_X12_put_3_3 W9 hLx hkx 3 x_45 (rc_3) (rx_45) hUI_46  (fun hq => by have n_53 : ¬ x_45 = 0 := hq; have r_54 := ne_lo (lo := 1) n_53 rx_45 rc_0 rfl (by decide); have r_55 := rg_i rx_51 (eq_rg q_52.symm ((ex_45.2) n_53)) (lo := 0) (hi := 9) (by decide) (by decide); exact eq_rg hx_51 (r_55))) hLx hkx (by decide) rfl v_12_187 rfl ⟨rfl, rfl⟩ ⟨Nat.le_of_ble_eq_true rfl, Nat.le_of_ble_eq_true rfl⟩ (Nat.le_of_ble_eq_true rfl) ⟨Nat.le_of_ble_eq_true rfl, Nat.le_of_ble_eq_true rfl⟩ dX12_readLine_98 rfl (st := []) (fun x_56 I_57 J_58 h_59 => ?_)
              obtain ⟨hUI_57, hFI_57, hGJ_58, rx_56, ex_56⟩ := h_59
              have hF_60 := fq_tr hF_49 hFI_57 (by decide)
              have hG_61 := fq_tr hG_50 hGJ_58 (by decide)
              exact g_zret (ty := .boolean) (r := x_56) B K rfl (nar_z (rx_56)) ⟨hUI_57, hF_60, hG_61, rx_56, ⟨(pg_fq (pg_t (pg_s (ps_t2 (pg_u pg_rf hI_35 (Or.inr (by decide)) (Or.inr (by decide))) ex_38)) ex_45.1.1) hFI_57 hLx hkx (by decide) (by decide)), fun hq => by have n_62 : ¬ x_56 = 0 := hq; have r_63 := ne_lo (lo := 1) n_62 rx_56 rc_0 rfl (by decide); have n_64 : ¬ x_45 = 0 := (fun q => n_62 (Eq.trans ex_56.1 q)); have r_65 := ne_lo (lo := 1) n_64 rx_45 rc_0 rfl (by decide); have r_66 := rg_i rx_51 (eq_rg q_52.symm ((ex_45.2) n_64)) (lo := 0) (hi := 9) (by decide) (by decide); exact (ps_fq (ps_t2 (pg_s (ps_t2 (pg_u pg_rf hI_35 (Or.inr (by decide)) (Or.inr (by decide))) ex_38)) (ex_45.1.2 n_64)) hFI_57 hLx hkx (by decide) (by decide))⟩⟩ dX12_readLine_101
            · skip
              have n_67 : ¬ x_32 = 0 := h_33
              have r_68 := ne_lo (lo := 1) n_67 rx_32 rc_0 rfl (by decide)
              refine g_aload_n C 0 dX12_readLine_74 rfl rfl ?_
              refine g_iconst C (v := 3) dX12_readLine_75 (by decide) ?_
              refine g_callVI C K (c_X12_bad W9 hLx hkx 3 (rg_w rc_3 (by decide) (by decide)) hU) hLx hkx (by decide) rfl v_12_146 rfl ⟨rfl, rfl⟩ ⟨Nat.le_of_ble_eq_true rfl, Nat.le_of_ble_eq_true rfl⟩ (Nat.le_of_ble_eq_true rfl) ⟨Nat.le_of_ble_eq_true rfl, Nat.le_of_ble_eq_true rfl⟩ dX12_readLine_76 rfl (st := []) (fun x_69 I_70 J_71 h_72 => ?_)
              obtain ⟨hUI_70, hFI_70, hGJ_71, rx_69⟩ := h_72
              have hF_73 := fq_tr hF hFI_70 (by decide)
              have hG_74 := fq_tr hG hGJ_71 (by decide)
              exact g_zret (ty := .boolean) (r := x_69) B K rfl (nar_z (rg_w rx_69 (by decide) (by decide))) ⟨hUI_70, hF_73, hG_74, rg_w rx_69 (by decide) (by decide), ⟨(pg_fq pg_rf hFI_70 hLx hkx (by decide) (by decide)), fun q => ne_no q rx_69 rc_0⟩⟩ dX12_readLine_79
          · skip
            have r_75 := (⟨(rx_25).1, (eq_rg (h_29) rc_0).2⟩ : Rg 0 0 x_25)
            refine g_aload_n C 0 dX12_readLine_61 rfl rfl ?_
            refine g_iconst C (v := 1) dX12_readLine_62 (by decide) ?_
            refine g_callVI C K (c_X12_bad W9 hLx hkx 1 (rg_w rc_1 (by decide) (by decide)) hU) hLx hkx (by decide) rfl v_12_146 rfl ⟨rfl, rfl⟩ ⟨Nat.le_of_ble_eq_true rfl, Nat.le_of_ble_eq_true rfl⟩ (Nat.le_of_ble_eq_true rfl) ⟨Nat.le_of_ble_eq_true rfl, Nat.le_of_ble_eq_true rfl⟩ dX12_readLine_63 rfl (st := []) (fun x_76 I_77 J_78 h_79 => ?_)
            obtain ⟨hUI_77, hFI_77, hGJ_78, rx_76⟩ := h_79
            have hF_80 := fq_tr hF hFI_77 (by decide)
            have hG_81 := fq_tr hG hGJ_78 (by decide)
            exact g_zret (ty := .boolean) (r := x_76) B K rfl (nar_z (rg_w rx_76 (by decide) (by decide))) ⟨hUI_77, hF_80, hG_81, rg_w rx_76 (by decide) (by decide), ⟨(pg_fq pg_rf hFI_77 hLx hkx (by decide) (by decide)), fun q => ne_no q rx_76 rc_0⟩⟩ dX12_readLine_66
        · skip
          have n_82 : ¬ x_19 = 0 := h_23
          have r_83 := ne_lo (lo := 1) n_82 rx_19 rc_0 rfl (by decide)
          refine g_aload_n C 0 dX12_readLine_47 rfl rfl ?_
          refine g_callVI C K (c_X12_readLaw W9 hLx hkx   hU) hLx hkx (by decide) rfl v_12_210 rfl ⟨rfl, rfl⟩ ⟨Nat.le_of_ble_eq_true rfl, Nat.le_of_ble_eq_true rfl⟩ (Nat.le_of_ble_eq_true rfl) ⟨Nat.le_of_ble_eq_true rfl, Nat.le_of_ble_eq_true rfl⟩ dX12_readLine_48 rfl (st := []) (fun x_84 I_85 J_86 h_87 => ?_)
          obtain ⟨hUI_85, hFI_85, hGJ_86, rx_84, ex_84⟩ := h_87
          have hF_88 := fq_tr hF hFI_85 (by decide)
          have hG_89 := fq_tr hG hGJ_86 (by decide)
          exact g_zret (ty := .boolean) (r := x_84) B K rfl (nar_z (rx_84)) ⟨hUI_85, hF_88, hG_89, rx_84, ⟨(pg_t pg_rf ex_84.1), fun hq => by have n_90 : ¬ x_84 = 0 := hq; have r_91 := ne_lo (lo := 1) n_90 rx_84 rc_0 rfl (by decide); exact (ps_t2 pg_rf (ex_84.2 n_90))⟩⟩ dX12_readLine_51
      · skip
        have n_92 : ¬ x_13 = 0 := h_17
        have r_93 := ne_lo (lo := 1) n_92 rx_13 rc_0 rfl (by decide)
        refine g_aload_n C 0 dX12_readLine_34 rfl rfl ?_
        refine g_callVI C K (c_X12_readPlate W9 hLx hkx   hU) hLx hkx (by decide) rfl v_12_207 rfl ⟨rfl, rfl⟩ ⟨Nat.le_of_ble_eq_true rfl, Nat.le_of_ble_eq_true rfl⟩ (Nat.le_of_ble_eq_true rfl) ⟨Nat.le_of_ble_eq_true rfl, Nat.le_of_ble_eq_true rfl⟩ dX12_readLine_35 rfl (st := []) (fun x_94 I_95 J_96 h_97 => ?_)
        obtain ⟨hUI_95, hFI_95, hGJ_96, rx_94, ex_94⟩ := h_97
        have hF_98 := fq_tr hF hFI_95 (by decide)
        have hG_99 := fq_tr hG hGJ_96 (by decide)
        exact g_zret (ty := .boolean) (r := x_94) B K rfl (nar_z (rx_94)) ⟨hUI_95, hF_98, hG_99, rx_94, ⟨(pg_t pg_rf ex_94.1), fun hq => by have n_100 : ¬ x_94 = 0 := hq; have r_101 := ne_lo (lo := 1) n_100 rx_94 rc_0 rfl (by decide); exact (ps_t2 pg_rf (ex_94.2 n_100))⟩⟩ dX12_readLine_38
    · skip
      have n_102 : ¬ x_7 = 0 := h_11
      have r_103 := ne_lo (lo := 1) n_102 rx_7 rc_0 rfl (by decide)
      refine g_aload_n C 0 dX12_readLine_21 rfl rfl ?_
      refine g_callVI C K (c_X12_readDish W9 hLx hkx   hU) hLx hkx (by decide) rfl v_12_204 rfl ⟨rfl, rfl⟩ ⟨Nat.le_of_ble_eq_true rfl, Nat.le_of_ble_eq_true rfl⟩ (Nat.le_of_ble_eq_true rfl) ⟨Nat.le_of_ble_eq_true rfl, Nat.le_of_ble_eq_true rfl⟩ dX12_readLine_22 rfl (st := []) (fun x_104 I_105 J_106 h_107 => ?_)
      obtain ⟨hUI_105, hFI_105, hGJ_106, rx_104, ex_104⟩ := h_107
      have hF_108 := fq_tr hF hFI_105 (by decide)
      have hG_109 := fq_tr hG hGJ_106 (by decide)
      exact g_zret (ty := .boolean) (r := x_104) B K rfl (nar_z (rx_104)) ⟨hUI_105, hF_108, hG_109, rx_104, ⟨(pg_t pg_rf ex_104.1), fun hq => by have n_110 : ¬ x_104 = 0 := hq; have r_111 := ne_lo (lo := 1) n_110 rx_104 rc_0 rfl (by decide); exact (ps_t2 pg_rf (ex_104.2 n_110))⟩⟩ dX12_readLine_25
  · skip
    have n_112 : ¬ x_1 = 0 := h_5
    have r_113 := ne_lo (lo := 1) n_112 rx_1 rc_0 rfl (by decide)
    refine g_aload_n C 0 dX12_readLine_8 rfl rfl ?_
    refine g_callVI C K (c_X12_readPerson W9 hLx hkx   hU) hLx hkx (by decide) rfl v_12_201 rfl ⟨rfl, rfl⟩ ⟨Nat.le_of_ble_eq_true rfl, Nat.le_of_ble_eq_true rfl⟩ (Nat.le_of_ble_eq_true rfl) ⟨Nat.le_of_ble_eq_true rfl, Nat.le_of_ble_eq_true rfl⟩ dX12_readLine_9 rfl (st := []) (fun x_114 I_115 J_116 h_117 => ?_)
    obtain ⟨hUI_115, hFI_115, hGJ_116, rx_114, ex_114⟩ := h_117
    have hF_118 := fq_tr hF hFI_115 (by decide)
    have hG_119 := fq_tr hG hGJ_116 (by decide)
    exact g_zret (ty := .boolean) (r := x_114) B K rfl (nar_z (rx_114)) ⟨hUI_115, hF_118, hG_119, rx_114, ⟨(pg_t pg_rf ex_114.1), fun hq => by have n_120 : ¬ x_114 = 0 := hq; have r_121 := ne_lo (lo := 1) n_120 rx_114 rc_0 rfl (by decide); exact (ps_t2 pg_rf (ex_114.2 n_120))⟩⟩ dX12_readLine_12
set_option maxRecDepth 100000 in
set_option maxHeartbeats 8000000 in
theorem c_X12_startSo {l : Launch} {D : va_G} {cy : Nat → ClassId} {L : List Nat} {κ ln : Nat → Nat} {R : Nat → Nat → Option Nat} {I : Nat → Nat → Int32} {J : Nat → Nat → Int64} {ow : Nat → Nat × Nat} (W9 : ∀ a ∈ L, Shp L κ ln R ow a) {x : Nat} (hLx : x ∈ L) (hkx : κ x = 12) (hU : Iw1 L κ R ow I) : CtV l yX12_startSo cX12_startSo 2 none { frames := 0, cells := 0, slots := 0, locals := 0 } D cy L κ ln R I J [.ref x] (fun I2 J2 => Iw0 L κ R ow I2 ∧ Fq L κ ow [83400] I I2 ∧ Fq L κ ow [] J J2) := by
  refine CtV.of (by decide +kernel) (Nat.le_of_ble_eq_true rfl) ?_
  intro p e s m below meth c B K
  have C := B.1
  have hF : Fq L κ ow [83400] I I := fq_rf
  have hG : Fq L κ ow [] J J := fq_rf
  obtain ⟨b_1, hb_1, hb_1L, hb_1k, hb_1n, hb_1o⟩ := shp_a (W9 x hLx) hkx 14 14 389 rfl (by decide)
  refine g_lo (is := [0]) (lo2 := [(0, .ref x)]) rfl ?_
  refine g_bipush C (v := 72) dX12_startSo_0 (by decide) ?_
  refine g_istore_n C dX12_startSo_2 rfl (by decide) (lo2 := [(1, .int 72), (0, .ref x)]) rfl ?_
  refine g_lo (is := [1, 0]) (lo2 := [(0, .ref x), (1, .int 72)]) rfl ?_
  have ex_3 : ∀ (I_3 : Nat → Nat → Int32) (hI_3 : I_3 = fil_ I b_1 (72) 317) (v_2 : Int32) (rv_2 : Rg 389 389 v_2), WG p l e { frames := 0, cells := 0, slots := 0, locals := 0 } s m ([.ref x] : List Value).toArray below meth c 2 0 0 (MQ below (Qv_ D cy L κ ln R (fun I2 J2 => Iw0 L κ R ow I2 ∧ Fq L κ ow [83400] I I2 ∧ Fq L κ ow [] J J2)) ([.ref x] : List Value).toArray s 0 0 (Al_ L)) D cy (Al_ L) s.heap L κ ln R I_3 J 23 [(0, .ref x), (1, .int v_2)] [] := by
    intro I_3 hI_3 v_2 rv_2
    have hF_4 := fq_fil hF hI_3 (ro_a hb_1k (by decide) hb_1o hkx rfl) (by decide) (by decide)
    have hU_5 := uw_fil hU.1 hI_3 (ro_a hb_1k (by decide) hb_1o hkx rfl)
    refine g_iconst C (v := 0) dX12_startSo_23 (by decide) ?_
    refine g_istore_n C dX12_startSo_24 rfl (by decide) (lo2 := [(1, .int 0), (0, .ref x)]) rfl ?_
    refine g_lo (is := [1, 0]) (lo2 := [(0, .ref x), (1, .int 0)]) rfl ?_
    have ex_25 : ∀ (I_7 : Nat → Nat → Int32) (hI_7 : I_7 = cpn_ I_3 b_1 b_1 (18) (78) 6) (v_6 : Int32) (rv_6 : Rg 6 6 v_6), WG p l e { frames := 0, cells := 0, slots := 0, locals := 0 } s m ([.ref x] : List Value).toArray below meth c 2 0 0 (MQ below (Qv_ D cy L κ ln R (fun I2 J2 => Iw0 L κ R ow I2 ∧ Fq L κ ow [83400] I I2 ∧ Fq L κ ow [] J J2)) ([.ref x] : List Value).toArray s 0 0 (Al_ L)) D cy (Al_ L) s.heap L κ ln R I_7 J 55 [(0, .ref x), (1, .int v_6)] [] := by
      intro I_7 hI_7 v_6 rv_6
      have hF_8 := fq_cpn hF_4 hI_7 (ro_a hb_1k (by decide) hb_1o hkx rfl) (by decide) (by decide)
      have hU_9 := uw_cpn hU_5 hb_1L hI_7 (ro_a hb_1k (by decide) hb_1o hkx rfl) (ro_a hb_1k (by decide) hb_1o hkx rfl) (fun i hi => by rw [bn_834, bn_834, zq_78 (by omega), zq_18 (by omega)]; decide)
      refine g_iconst C (v := 0) dX12_startSo_55 (by decide) ?_
      refine g_istore_n C dX12_startSo_56 rfl (by decide) (lo2 := [(1, .int 0), (0, .ref x)]) rfl ?_
      refine g_lo (is := [1, 0]) (lo2 := [(0, .ref x), (1, .int 0)]) rfl ?_
      have ex_57 : ∀ (I_11 : Nat → Nat → Int32) (hI_11 : I_11 = cpn_ I_7 b_1 b_1 (30) (105) 42) (v_10 : Int32) (rv_10 : Rg 42 42 v_10), WG p l e { frames := 0, cells := 0, slots := 0, locals := 0 } s m ([.ref x] : List Value).toArray below meth c 2 0 0 (MQ below (Qv_ D cy L κ ln R (fun I2 J2 => Iw0 L κ R ow I2 ∧ Fq L κ ow [83400] I I2 ∧ Fq L κ ow [] J J2)) ([.ref x] : List Value).toArray s 0 0 (Al_ L)) D cy (Al_ L) s.heap L κ ln R I_11 J 87 [(0, .ref x), (1, .int v_10)] [] := by
        intro I_11 hI_11 v_10 rv_10
        have hF_12 := fq_cpn hF_8 hI_11 (ro_a hb_1k (by decide) hb_1o hkx rfl) (by decide) (by decide)
        have hU_13 := uw_cpn hU_9 hb_1L hI_11 (ro_a hb_1k (by decide) hb_1o hkx rfl) (ro_a hb_1k (by decide) hb_1o hkx rfl) (fun i hi => by rw [bn_834, bn_834, zq_105 (by omega), zq_30 (by omega)]; decide)
        have hU_14 := iw_st W9 hU hU_13 hLx hkx hb_1 hI_3 hI_7 hI_11
        exact g_vret B K rfl ⟨hU_14, hF_12, hG⟩ dX12_startSo_87
      have l_57 : ∀ (m_57 : Nat) (v_15 : Int32) (I_16 : Nat → Nat → Int32), v_15.toInt + (m_57 : Int) = 42 → 0 ≤ v_15.toInt → I_16 = cpn_ I_7 b_1 b_1 (30) (105) v_15.toNatClampNeg → WG p l e { frames := 0, cells := 0, slots := 0, locals := 0 } s m ([.ref x] : List Value).toArray below meth c 2 0 0 (MQ below (Qv_ D cy L κ ln R (fun I2 J2 => Iw0 L κ R ow I2 ∧ Fq L κ ow [83400] I I2 ∧ Fq L κ ow [] J J2)) ([.ref x] : List Value).toArray s 0 0 (Al_ L)) D cy (Al_ L) s.heap L κ ln R I_16 J 57 [(0, .ref x), (1, .int v_15)] [] := by
        intro m_57
        induction m_57 with
        | zero =>
          intro v_15 I_16 hk_57 h0_57 hI_16
          have rv_15 : Rg 42 42 v_15 := by unfold Rg; omega
          refine g_iload_n C 1 dX12_startSo_57 rfl rfl ?_
          refine g_bipush C (v := 42) dX12_startSo_58 (by decide) ?_
          refine g_icmp_ge C (tgt := 87) dX12_startSo_60 (by decide) (fun h_17 => ?_) (fun h_17 => ?_)
          · skip
            refine g_lo (is := [0, 1]) (lo2 := [(0, .ref x), (1, .int v_15)]) rfl ?_
            exact ex_57 I_16 (hI_16.trans (congrArg (fun q => cpn_ I_7 b_1 b_1 (30) (105) q) (show v_15.toNatClampNeg = 42 from by have := ix_n rv_15 (by decide); have := rv_15.1; have := rv_15.2; omega))) v_15 rv_15
          · skip
            have r_18 := lt_l (hi := 41) (nle h_17) rv_15 rc_42 (by decide)
            exact rg_no r_18 (by decide)
        | succ m_57 ih_57 =>
          intro v_15 I_16 hk_57 h0_57 hI_16
          have rv_15 : Rg 0 41 v_15 := by unfold Rg; omega
          refine g_iload_n C 1 dX12_startSo_57 rfl rfl ?_
          refine g_bipush C (v := 42) dX12_startSo_58 (by decide) ?_
          refine g_icmp_ge C (tgt := 87) dX12_startSo_60 (by decide) (fun h_19 => ?_) (fun h_19 => ?_)
          · skip
            have r_20 := le_r (h_19) rc_42 rv_15
            exact rg_no r_20 (by decide)
          · skip
            refine g_aload_n C 0 dX12_startSo_63 rfl rfl ?_
            refine g_getR C K hLx hkx f_12_13 hb_1 dX12_startSo_64 ?_
            refine g_bipush C (v := 105) dX12_startSo_67 (by decide) ?_
            refine g_iload_n C 1 dX12_startSo_69 rfl rfl ?_
            obtain ⟨x_21, hx_21, rx_21, tx_21⟩ := ex_add 105 146 rc_105 rv_15 (by decide) (by decide) (by decide) (by decide)
            refine g_iadd C (v := x_21) dX12_startSo_70 hx_21 ?_
            refine g_aload_n C 0 dX12_startSo_71 rfl rfl ?_
            refine g_getR C K hLx hkx f_12_13 hb_1 dX12_startSo_72 ?_
            refine g_bipush C (v := 30) dX12_startSo_75 (by decide) ?_
            refine g_iload_n C 1 dX12_startSo_77 rfl rfl ?_
            obtain ⟨x_22, hx_22, rx_22, tx_22⟩ := ex_add 30 71 rc_30 rv_15 (by decide) (by decide) (by decide) (by decide)
            refine g_iadd C (v := x_22) dX12_startSo_78 hx_22 ?_
            obtain ⟨x_23, hx_23, rx_23⟩ := ex_any (z0 := I_16 b_1 (x_22.toNatClampNeg))
            refine h_iald C K hb_1L hb_1k (v := x_23) (x_22.toNatClampNeg) (rfl) (ix_0 rx_22 (by decide)) (ix_lt rx_22 (by decide) hb_1n (by decide)) hx_23 dX12_startSo_79 ?_
            refine h_iast C K hb_1L hb_1k (x_21.toNatClampNeg) (rfl) (ix_0 rx_21 (by decide)) (ix_lt rx_21 (by decide) hb_1n (by decide)) dX12_startSo_80 (fun I_24 hI_24 => ?_)
            obtain ⟨x_25, hx_25, rx_25, tx_25⟩ := ex_add (y := 1) 1 42 rv_15 rc_1 (by decide) (by decide) (by decide) (by decide)
            refine g_iinc C dX12_startSo_81 (k := 1) (v := x_25) rfl hx_25 (by decide) (lo2 := [(1, .int x_25), (0, .ref x)]) rfl ?_
            refine g_goto C (tgt := 57) dX12_startSo_84 (by decide) ?_
            refine g_lo (is := [1, 0]) (lo2 := [(0, .ref x), (1, .int x_25)]) rfl ?_
            have kk_57 : x_25.toNatClampNeg = v_15.toNatClampNeg + 1 := by have q1 := ix_n rv_15 (by decide); have q2 := (ti_k tx_25 rc_1); have q3 : x_25.toNatClampNeg = x_25.toInt.toNat := rfl; omega
            exact ih_57 x_25 I_24 (by have := (ti_k tx_25 rc_1); omega) (by have := (ti_k tx_25 rc_1); omega) (by rw [kk_57]; exact cpn_s hI_16 hx_23 hI_24 (show x_22.toNatClampNeg = (30) + v_15.toNatClampNeg from by rw [nx_a tx_22 rc_30 rv_15 (by decide)]; simp only [show (30 : Int32).toNatClampNeg = 30 from rfl] <;> omega) (show x_21.toNatClampNeg = (105) + v_15.toNatClampNeg from by rw [nx_a tx_21 rc_105 rv_15 (by decide)]; simp only [show (105 : Int32).toNatClampNeg = 105 from rfl] <;> omega) (Or.inr (Or.inr (by have q1 := ix_n rv_15 (by decide); have q2 := rv_15.2; omega))))
      exact l_57 42 0 I_7 (by decide) (by decide) cpn_0
    have l_25 : ∀ (m_25 : Nat) (v_26 : Int32) (I_27 : Nat → Nat → Int32), v_26.toInt + (m_25 : Int) = 6 → 0 ≤ v_26.toInt → I_27 = cpn_ I_3 b_1 b_1 (18) (78) v_26.toNatClampNeg → WG p l e { frames := 0, cells := 0, slots := 0, locals := 0 } s m ([.ref x] : List Value).toArray below meth c 2 0 0 (MQ below (Qv_ D cy L κ ln R (fun I2 J2 => Iw0 L κ R ow I2 ∧ Fq L κ ow [83400] I I2 ∧ Fq L κ ow [] J J2)) ([.ref x] : List Value).toArray s 0 0 (Al_ L)) D cy (Al_ L) s.heap L κ ln R I_27 J 25 [(0, .ref x), (1, .int v_26)] [] := by
      intro m_25
      induction m_25 with
      | zero =>
        intro v_26 I_27 hk_25 h0_25 hI_27
        have rv_26 : Rg 6 6 v_26 := by unfold Rg; omega
        refine g_iload_n C 1 dX12_startSo_25 rfl rfl ?_
        refine g_bipush C (v := 6) dX12_startSo_26 (by decide) ?_
        refine g_icmp_ge C (tgt := 55) dX12_startSo_28 (by decide) (fun h_28 => ?_) (fun h_28 => ?_)
        · skip
          refine g_lo (is := [0, 1]) (lo2 := [(0, .ref x), (1, .int v_26)]) rfl ?_
          exact ex_25 I_27 (hI_27.trans (congrArg (fun q => cpn_ I_3 b_1 b_1 (18) (78) q) (show v_26.toNatClampNeg = 6 from by have := ix_n rv_26 (by decide); have := rv_26.1; have := rv_26.2; omega))) v_26 rv_26
        · skip
          have r_29 := lt_l (hi := 5) (nle h_28) rv_26 rc_6 (by decide)
          exact rg_no r_29 (by decide)
      | succ m_25 ih_25 =>
        intro v_26 I_27 hk_25 h0_25 hI_27
        have rv_26 : Rg 0 5 v_26 := by unfold Rg; omega
        refine g_iload_n C 1 dX12_startSo_25 rfl rfl ?_
        refine g_bipush C (v := 6) dX12_startSo_26 (by decide) ?_
        refine g_icmp_ge C (tgt := 55) dX12_startSo_28 (by decide) (fun h_30 => ?_) (fun h_30 => ?_)
        · skip
          have r_31 := le_r (h_30) rc_6 rv_26
          exact rg_no r_31 (by decide)
        · skip
          refine g_aload_n C 0 dX12_startSo_31 rfl rfl ?_
          refine g_getR C K hLx hkx f_12_13 hb_1 dX12_startSo_32 ?_
          refine g_bipush C (v := 78) dX12_startSo_35 (by decide) ?_
          refine g_iload_n C 1 dX12_startSo_37 rfl rfl ?_
          obtain ⟨x_32, hx_32, rx_32, tx_32⟩ := ex_add 78 83 rc_78 rv_26 (by decide) (by decide) (by decide) (by decide)
          refine g_iadd C (v := x_32) dX12_startSo_38 hx_32 ?_
          refine g_aload_n C 0 dX12_startSo_39 rfl rfl ?_
          refine g_getR C K hLx hkx f_12_13 hb_1 dX12_startSo_40 ?_
          refine g_bipush C (v := 18) dX12_startSo_43 (by decide) ?_
          refine g_iload_n C 1 dX12_startSo_45 rfl rfl ?_
          obtain ⟨x_33, hx_33, rx_33, tx_33⟩ := ex_add 18 23 rc_18 rv_26 (by decide) (by decide) (by decide) (by decide)
          refine g_iadd C (v := x_33) dX12_startSo_46 hx_33 ?_
          obtain ⟨x_34, hx_34, rx_34⟩ := ex_any (z0 := I_27 b_1 (x_33.toNatClampNeg))
          refine h_iald C K hb_1L hb_1k (v := x_34) (x_33.toNatClampNeg) (rfl) (ix_0 rx_33 (by decide)) (ix_lt rx_33 (by decide) hb_1n (by decide)) hx_34 dX12_startSo_47 ?_
          refine h_iast C K hb_1L hb_1k (x_32.toNatClampNeg) (rfl) (ix_0 rx_32 (by decide)) (ix_lt rx_32 (by decide) hb_1n (by decide)) dX12_startSo_48 (fun I_35 hI_35 => ?_)
          obtain ⟨x_36, hx_36, rx_36, tx_36⟩ := ex_add (y := 1) 1 6 rv_26 rc_1 (by decide) (by decide) (by decide) (by decide)
          refine g_iinc C dX12_startSo_49 (k := 1) (v := x_36) rfl hx_36 (by decide) (lo2 := [(1, .int x_36), (0, .ref x)]) rfl ?_
          refine g_goto C (tgt := 25) dX12_startSo_52 (by decide) ?_
          refine g_lo (is := [1, 0]) (lo2 := [(0, .ref x), (1, .int x_36)]) rfl ?_
          have kk_25 : x_36.toNatClampNeg = v_26.toNatClampNeg + 1 := by have q1 := ix_n rv_26 (by decide); have q2 := (ti_k tx_36 rc_1); have q3 : x_36.toNatClampNeg = x_36.toInt.toNat := rfl; omega
          exact ih_25 x_36 I_35 (by have := (ti_k tx_36 rc_1); omega) (by have := (ti_k tx_36 rc_1); omega) (by rw [kk_25]; exact cpn_s hI_27 hx_34 hI_35 (show x_33.toNatClampNeg = (18) + v_26.toNatClampNeg from by rw [nx_a tx_33 rc_18 rv_26 (by decide)]; simp only [show (18 : Int32).toNatClampNeg = 18 from rfl] <;> omega) (show x_32.toNatClampNeg = (78) + v_26.toNatClampNeg from by rw [nx_a tx_32 rc_78 rv_26 (by decide)]; simp only [show (78 : Int32).toNatClampNeg = 78 from rfl] <;> omega) (Or.inr (Or.inr (by have q1 := ix_n rv_26 (by decide); have q2 := rv_26.2; omega))))
    exact l_25 6 0 I_3 (by decide) (by decide) cpn_0
  have l_3 : ∀ (m_3 : Nat) (v_37 : Int32) (I_38 : Nat → Nat → Int32), v_37.toInt + (m_3 : Int) = 389 → 72 ≤ v_37.toInt → I_38 = fil_ I b_1 (72) (v_37.toNatClampNeg - 72) → WG p l e { frames := 0, cells := 0, slots := 0, locals := 0 } s m ([.ref x] : List Value).toArray below meth c 2 0 0 (MQ below (Qv_ D cy L κ ln R (fun I2 J2 => Iw0 L κ R ow I2 ∧ Fq L κ ow [83400] I I2 ∧ Fq L κ ow [] J J2)) ([.ref x] : List Value).toArray s 0 0 (Al_ L)) D cy (Al_ L) s.heap L κ ln R I_38 J 3 [(0, .ref x), (1, .int v_37)] [] := by
    intro m_3
    induction m_3 with
    | zero =>
      intro v_37 I_38 hk_3 h0_3 hI_38
      have rv_37 : Rg 389 389 v_37 := by unfold Rg; omega
      refine g_iload_n C 1 dX12_startSo_3 rfl rfl ?_
      refine g_sipush C (v := 389) dX12_startSo_4 (by decide) ?_
      refine g_icmp_ge C (tgt := 23) dX12_startSo_7 (by decide) (fun h_39 => ?_) (fun h_39 => ?_)
      · skip
        refine g_lo (is := [0, 1]) (lo2 := [(0, .ref x), (1, .int v_37)]) rfl ?_
        exact ex_3 I_38 (hI_38.trans (congrArg (fun q => fil_ I b_1 (72) q) (show v_37.toNatClampNeg - 72 = 317 from by have := ix_n rv_37 (by decide); have := rv_37.1; have := rv_37.2; omega))) v_37 rv_37
      · skip
        have r_40 := lt_l (hi := 388) (nle h_39) rv_37 rc_389 (by decide)
        exact rg_no r_40 (by decide)
    | succ m_3 ih_3 =>
      intro v_37 I_38 hk_3 h0_3 hI_38
      have rv_37 : Rg 72 388 v_37 := by unfold Rg; omega
      refine g_iload_n C 1 dX12_startSo_3 rfl rfl ?_
      refine g_sipush C (v := 389) dX12_startSo_4 (by decide) ?_
      refine g_icmp_ge C (tgt := 23) dX12_startSo_7 (by decide) (fun h_41 => ?_) (fun h_41 => ?_)
      · skip
        have r_42 := le_r (h_41) rc_389 rv_37
        exact rg_no r_42 (by decide)
      · skip
        refine g_aload_n C 0 dX12_startSo_10 rfl rfl ?_
        refine g_getR C K hLx hkx f_12_13 hb_1 dX12_startSo_11 ?_
        refine g_iload_n C 1 dX12_startSo_14 rfl rfl ?_
        refine g_iconst C (v := 0) dX12_startSo_15 (by decide) ?_
        refine h_iast C K hb_1L hb_1k (v_37.toNatClampNeg) (rfl) (ix_0 rv_37 (by decide)) (ix_lt rv_37 (by decide) hb_1n (by decide)) dX12_startSo_16 (fun I_43 hI_43 => ?_)
        obtain ⟨x_44, hx_44, rx_44, tx_44⟩ := ex_add (y := 1) 73 389 rv_37 rc_1 (by decide) (by decide) (by decide) (by decide)
        refine g_iinc C dX12_startSo_17 (k := 1) (v := x_44) rfl hx_44 (by decide) (lo2 := [(1, .int x_44), (0, .ref x)]) rfl ?_
        refine g_goto C (tgt := 3) dX12_startSo_20 (by decide) ?_
        refine g_lo (is := [1, 0]) (lo2 := [(0, .ref x), (1, .int x_44)]) rfl ?_
        have kk_3 : x_44.toNatClampNeg - 72 = (v_37.toNatClampNeg - 72) + 1 := by have q1 := ix_n rv_37 (by decide); have q2 := (ti_k tx_44 rc_1); have q3 : x_44.toNatClampNeg = x_44.toInt.toNat := rfl; have := rv_37.1; omega
        exact ih_3 x_44 I_43 (by have := (ti_k tx_44 rc_1); omega) (by have := (ti_k tx_44 rc_1); omega) (by rw [kk_3]; exact fil_s hI_38 hI_43 (by have q1 := ix_n rv_37 (by decide); have := rv_37.1; omega))
  exact l_3 317 72 I (by decide) (by decide) fil_0
