theorem dX12_isOne_0 : decode cX12_isOne 0 = .ok (.aload_n 0, 1) := by decide +kernel
theorem dX12_isOne_1 : decode cX12_isOne 1 = .ok (.invokevirtual 166, 3) := by decide +kernel
theorem dX12_isOne_4 : decode cX12_isOne 4 = .ok (.ifCond .ne 9, 3) := by decide +kernel
theorem dX12_isOne_7 : decode cX12_isOne 7 = .ok (.aload_n 0, 1) := by decide +kernel
theorem dX12_isOne_8 : decode cX12_isOne 8 = .ok (.iconst 1, 1) := by decide +kernel
theorem dX12_isOne_9 : decode cX12_isOne 9 = .ok (.invokevirtual 146, 3) := by decide +kernel
theorem dX12_isOne_12 : decode cX12_isOne 12 = .ok (.ireturn, 1) := by decide +kernel
theorem dX12_isOne_13 : decode cX12_isOne 13 = .ok (.aload_n 0, 1) := by decide +kernel
theorem dX12_isOne_14 : decode cX12_isOne 14 = .ok (.aload_n 0, 1) := by decide +kernel
theorem dX12_isOne_15 : decode cX12_isOne 15 = .ok (.getfield 32, 3) := by decide +kernel
theorem dX12_isOne_18 : decode cX12_isOne 18 = .ok (.iload_n 1, 1) := by decide +kernel
theorem dX12_isOne_19 : decode cX12_isOne 19 = .ok (.iload_n 2, 1) := by decide +kernel
theorem dX12_isOne_20 : decode cX12_isOne 20 = .ok (.aload_n 0, 1) := by decide +kernel
theorem dX12_isOne_21 : decode cX12_isOne 21 = .ok (.getfield 117, 3) := by decide +kernel
theorem dX12_isOne_24 : decode cX12_isOne 24 = .ok (.invokestatic 170, 3) := by decide +kernel
theorem dX12_isOne_27 : decode cX12_isOne 27 = .ok (.putfield 153, 3) := by decide +kernel
theorem dX12_isOne_30 : decode cX12_isOne 30 = .ok (.aload_n 0, 1) := by decide +kernel
theorem dX12_isOne_31 : decode cX12_isOne 31 = .ok (.getfield 153, 3) := by decide +kernel
theorem dX12_isOne_34 : decode cX12_isOne 34 = .ok (.iconst (-1), 1) := by decide +kernel
theorem dX12_isOne_35 : decode cX12_isOne 35 = .ok (.if_icmp .ne 11, 3) := by decide +kernel
theorem dX12_isOne_38 : decode cX12_isOne 38 = .ok (.aload_n 0, 1) := by decide +kernel
theorem dX12_isOne_39 : decode cX12_isOne 39 = .ok (.iconst 3, 1) := by decide +kernel
theorem dX12_isOne_40 : decode cX12_isOne 40 = .ok (.invokevirtual 146, 3) := by decide +kernel
theorem dX12_isOne_43 : decode cX12_isOne 43 = .ok (.ifCond .eq 7, 3) := by decide +kernel
theorem dX12_isOne_46 : decode cX12_isOne 46 = .ok (.iconst 1, 1) := by decide +kernel
theorem dX12_isOne_47 : decode cX12_isOne 47 = .ok (.goto 4, 3) := by decide +kernel
theorem dX12_isOne_50 : decode cX12_isOne 50 = .ok (.iconst 0, 1) := by decide +kernel
theorem dX12_isOne_51 : decode cX12_isOne 51 = .ok (.ireturn, 1) := by decide +kernel
theorem dX12_readLine_0 : decode cX12_readLine 0 = .ok (.aload_n 0, 1) := by decide +kernel
theorem dX12_readLine_1 : decode cX12_readLine 1 = .ok (.iconst 0, 1) := by decide +kernel
theorem dX12_readLine_2 : decode cX12_readLine 2 = .ok (.invokevirtual 191, 3) := by decide +kernel
theorem dX12_readLine_5 : decode cX12_readLine 5 = .ok (.ifCond .eq 8, 3) := by decide +kernel
theorem dX12_readLine_8 : decode cX12_readLine 8 = .ok (.aload_n 0, 1) := by decide +kernel
theorem dX12_readLine_9 : decode cX12_readLine 9 = .ok (.invokevirtual 201, 3) := by decide +kernel
theorem dX12_readLine_12 : decode cX12_readLine 12 = .ok (.ireturn, 1) := by decide +kernel
theorem dX12_readLine_13 : decode cX12_readLine 13 = .ok (.aload_n 0, 1) := by decide +kernel
theorem dX12_readLine_14 : decode cX12_readLine 14 = .ok (.iconst 1, 1) := by decide +kernel
theorem dX12_readLine_15 : decode cX12_readLine 15 = .ok (.invokevirtual 191, 3) := by decide +kernel
theorem dX12_readLine_18 : decode cX12_readLine 18 = .ok (.ifCond .eq 8, 3) := by decide +kernel
theorem dX12_readLine_21 : decode cX12_readLine 21 = .ok (.aload_n 0, 1) := by decide +kernel
theorem dX12_readLine_22 : decode cX12_readLine 22 = .ok (.invokevirtual 204, 3) := by decide +kernel
theorem dX12_readLine_25 : decode cX12_readLine 25 = .ok (.ireturn, 1) := by decide +kernel
theorem dX12_readLine_26 : decode cX12_readLine 26 = .ok (.aload_n 0, 1) := by decide +kernel
theorem dX12_readLine_27 : decode cX12_readLine 27 = .ok (.iconst 3, 1) := by decide +kernel
theorem dX12_readLine_28 : decode cX12_readLine 28 = .ok (.invokevirtual 191, 3) := by decide +kernel
theorem dX12_readLine_31 : decode cX12_readLine 31 = .ok (.ifCond .eq 8, 3) := by decide +kernel
theorem dX12_readLine_34 : decode cX12_readLine 34 = .ok (.aload_n 0, 1) := by decide +kernel
theorem dX12_readLine_35 : decode cX12_readLine 35 = .ok (.invokevirtual 207, 3) := by decide +kernel
theorem dX12_readLine_38 : decode cX12_readLine 38 = .ok (.ireturn, 1) := by decide +kernel
theorem dX12_readLine_39 : decode cX12_readLine 39 = .ok (.aload_n 0, 1) := by decide +kernel
theorem dX12_readLine_40 : decode cX12_readLine 40 = .ok (.iconst 4, 1) := by decide +kernel
theorem dX12_readLine_41 : decode cX12_readLine 41 = .ok (.invokevirtual 191, 3) := by decide +kernel
theorem dX12_readLine_44 : decode cX12_readLine 44 = .ok (.ifCond .eq 8, 3) := by decide +kernel
theorem dX12_readLine_47 : decode cX12_readLine 47 = .ok (.aload_n 0, 1) := by decide +kernel
theorem dX12_readLine_48 : decode cX12_readLine 48 = .ok (.invokevirtual 210, 3) := by decide +kernel
theorem dX12_readLine_51 : decode cX12_readLine 51 = .ok (.ireturn, 1) := by decide +kernel
theorem dX12_readLine_52 : decode cX12_readLine 52 = .ok (.aload_n 0, 1) := by decide +kernel
theorem dX12_readLine_53 : decode cX12_readLine 53 = .ok (.bipush 8, 2) := by decide +kernel
theorem dX12_readLine_55 : decode cX12_readLine 55 = .ok (.invokevirtual 191, 3) := by decide +kernel
theorem dX12_readLine_58 : decode cX12_readLine 58 = .ok (.ifCond .ne 9, 3) := by decide +kernel
theorem dX12_readLine_61 : decode cX12_readLine 61 = .ok (.aload_n 0, 1) := by decide +kernel
theorem dX12_readLine_62 : decode cX12_readLine 62 = .ok (.iconst 1, 1) := by decide +kernel
theorem dX12_readLine_63 : decode cX12_readLine 63 = .ok (.invokevirtual 146, 3) := by decide +kernel
theorem dX12_readLine_66 : decode cX12_readLine 66 = .ok (.ireturn, 1) := by decide +kernel
theorem dX12_readLine_67 : decode cX12_readLine 67 = .ok (.aload_n 0, 1) := by decide +kernel
theorem dX12_readLine_68 : decode cX12_readLine 68 = .ok (.getfield 213, 3) := by decide +kernel
theorem dX12_readLine_71 : decode cX12_readLine 71 = .ok (.ifCond .eq 9, 3) := by decide +kernel
theorem dX12_readLine_74 : decode cX12_readLine 74 = .ok (.aload_n 0, 1) := by decide +kernel
theorem dX12_readLine_75 : decode cX12_readLine 75 = .ok (.iconst 3, 1) := by decide +kernel
theorem dX12_readLine_76 : decode cX12_readLine 76 = .ok (.invokevirtual 146, 3) := by decide +kernel
theorem dX12_readLine_79 : decode cX12_readLine 79 = .ok (.ireturn, 1) := by decide +kernel
theorem dX12_readLine_80 : decode cX12_readLine 80 = .ok (.aload_n 0, 1) := by decide +kernel
theorem dX12_readLine_81 : decode cX12_readLine 81 = .ok (.iconst 1, 1) := by decide +kernel
theorem dX12_readLine_82 : decode cX12_readLine 82 = .ok (.putfield 213, 3) := by decide +kernel
theorem dX12_readLine_85 : decode cX12_readLine 85 = .ok (.aload_n 0, 1) := by decide +kernel
theorem dX12_readLine_86 : decode cX12_readLine 86 = .ok (.invokevirtual 156, 3) := by decide +kernel
theorem dX12_readLine_89 : decode cX12_readLine 89 = .ok (.aload_n 0, 1) := by decide +kernel
theorem dX12_readLine_90 : decode cX12_readLine 90 = .ok (.iconst 3, 1) := by decide +kernel
theorem dX12_readLine_91 : decode cX12_readLine 91 = .ok (.aload_n 0, 1) := by decide +kernel
theorem dX12_readLine_92 : decode cX12_readLine 92 = .ok (.iconst 0, 1) := by decide +kernel
theorem dX12_readLine_93 : decode cX12_readLine 93 = .ok (.bipush 9, 2) := by decide +kernel
theorem dX12_readLine_95 : decode cX12_readLine 95 = .ok (.invokevirtual 184, 3) := by decide +kernel
theorem dX12_readLine_98 : decode cX12_readLine 98 = .ok (.invokevirtual 187, 3) := by decide +kernel
theorem dX12_readLine_101 : decode cX12_readLine 101 = .ok (.ireturn, 1) := by decide +kernel
theorem dX12_readOne_0 : decode cX12_readOne 0 = .ok (.aload_n 0, 1) := by decide +kernel
theorem dX12_readOne_1 : decode cX12_readOne 1 = .ok (.iload_n 1, 1) := by decide +kernel
theorem dX12_readOne_2 : decode cX12_readOne 2 = .ok (.iload_n 2, 1) := by decide +kernel
theorem dX12_readOne_3 : decode cX12_readOne 3 = .ok (.invokevirtual 174, 3) := by decide +kernel
theorem dX12_readOne_6 : decode cX12_readOne 6 = .ok (.ifCond .ne 5, 3) := by decide +kernel
theorem dX12_readOne_9 : decode cX12_readOne 9 = .ok (.iconst 0, 1) := by decide +kernel
theorem dX12_readOne_10 : decode cX12_readOne 10 = .ok (.ireturn, 1) := by decide +kernel
theorem dX12_readOne_11 : decode cX12_readOne 11 = .ok (.aload_n 0, 1) := by decide +kernel
theorem dX12_readOne_12 : decode cX12_readOne 12 = .ok (.invokevirtual 156, 3) := by decide +kernel
theorem dX12_readOne_15 : decode cX12_readOne 15 = .ok (.iconst 1, 1) := by decide +kernel
theorem dX12_readOne_16 : decode cX12_readOne 16 = .ok (.ireturn, 1) := by decide +kernel
theorem dX12_readPerson_0 : decode cX12_readPerson 0 = .ok (.aload_n 0, 1) := by decide +kernel
theorem dX12_readPerson_1 : decode cX12_readPerson 1 = .ok (.iconst 0, 1) := by decide +kernel
theorem dX12_readPerson_2 : decode cX12_readPerson 2 = .ok (.bipush 7, 2) := by decide +kernel
theorem dX12_readPerson_4 : decode cX12_readPerson 4 = .ok (.invokevirtual 178, 3) := by decide +kernel
theorem dX12_readPerson_7 : decode cX12_readPerson 7 = .ok (.ifCond .ne 5, 3) := by decide +kernel
theorem dX12_readPerson_10 : decode cX12_readPerson 10 = .ok (.iconst 0, 1) := by decide +kernel
theorem dX12_readPerson_11 : decode cX12_readPerson 11 = .ok (.ireturn, 1) := by decide +kernel
theorem dX12_readPerson_12 : decode cX12_readPerson 12 = .ok (.aload_n 0, 1) := by decide +kernel
theorem dX12_readPerson_13 : decode cX12_readPerson 13 = .ok (.getfield 16, 3) := by decide +kernel
theorem dX12_readPerson_16 : decode cX12_readPerson 16 = .ok (.iconst 0, 1) := by decide +kernel
theorem dX12_readPerson_17 : decode cX12_readPerson 17 = .ok (.iaload, 1) := by decide +kernel
theorem dX12_readPerson_18 : decode cX12_readPerson 18 = .ok (.istore_n 1, 1) := by decide +kernel
theorem dX12_readPerson_19 : decode cX12_readPerson 19 = .ok (.aload_n 0, 1) := by decide +kernel
theorem dX12_readPerson_20 : decode cX12_readPerson 20 = .ok (.iload_n 1, 1) := by decide +kernel
theorem dX12_readPerson_21 : decode cX12_readPerson 21 = .ok (.invokevirtual 181, 3) := by decide +kernel
theorem dX12_readPerson_24 : decode cX12_readPerson 24 = .ok (.ifCond .eq 20, 3) := by decide +kernel
theorem dX12_readPerson_27 : decode cX12_readPerson 27 = .ok (.aload_n 0, 1) := by decide +kernel
theorem dX12_readPerson_28 : decode cX12_readPerson 28 = .ok (.iconst 4, 1) := by decide +kernel
theorem dX12_readPerson_29 : decode cX12_readPerson 29 = .ok (.iload_n 1, 1) := by decide +kernel
theorem dX12_readPerson_30 : decode cX12_readPerson 30 = .ok (.iadd, 1) := by decide +kernel
theorem dX12_readPerson_31 : decode cX12_readPerson 31 = .ok (.aload_n 0, 1) := by decide +kernel
theorem dX12_readPerson_32 : decode cX12_readPerson 32 = .ok (.iconst 0, 1) := by decide +kernel
theorem dX12_readPerson_33 : decode cX12_readPerson 33 = .ok (.bipush 20, 2) := by decide +kernel
theorem dX12_readPerson_35 : decode cX12_readPerson 35 = .ok (.invokevirtual 184, 3) := by decide +kernel
theorem dX12_readPerson_38 : decode cX12_readPerson 38 = .ok (.invokevirtual 187, 3) := by decide +kernel
theorem dX12_readPerson_41 : decode cX12_readPerson 41 = .ok (.ifCond .ne 5, 3) := by decide +kernel
theorem dX12_readPerson_44 : decode cX12_readPerson 44 = .ok (.iconst 0, 1) := by decide +kernel
theorem dX12_readPerson_45 : decode cX12_readPerson 45 = .ok (.ireturn, 1) := by decide +kernel
theorem dX12_readPerson_46 : decode cX12_readPerson 46 = .ok (.aload_n 0, 1) := by decide +kernel
theorem dX12_readPerson_47 : decode cX12_readPerson 47 = .ok (.getfield 16, 3) := by decide +kernel
theorem dX12_readPerson_50 : decode cX12_readPerson 50 = .ok (.bipush 11, 2) := by decide +kernel
theorem dX12_readPerson_52 : decode cX12_readPerson 52 = .ok (.iload_n 1, 1) := by decide +kernel
theorem dX12_readPerson_53 : decode cX12_readPerson 53 = .ok (.iadd, 1) := by decide +kernel
theorem dX12_readPerson_54 : decode cX12_readPerson 54 = .ok (.iconst (-1), 1) := by decide +kernel
theorem dX12_readPerson_55 : decode cX12_readPerson 55 = .ok (.iastore, 1) := by decide +kernel
theorem dX12_readPerson_56 : decode cX12_readPerson 56 = .ok (.aload_n 0, 1) := by decide +kernel
theorem dX12_readPerson_57 : decode cX12_readPerson 57 = .ok (.bipush 22, 2) := by decide +kernel
theorem dX12_readPerson_59 : decode cX12_readPerson 59 = .ok (.invokevirtual 191, 3) := by decide +kernel
theorem dX12_readPerson_62 : decode cX12_readPerson 62 = .ok (.ifCond .eq 26, 3) := by decide +kernel
theorem dX12_readPerson_65 : decode cX12_readPerson 65 = .ok (.aload_n 0, 1) := by decide +kernel
theorem dX12_readPerson_66 : decode cX12_readPerson 66 = .ok (.invokevirtual 156, 3) := by decide +kernel
theorem dX12_readPerson_69 : decode cX12_readPerson 69 = .ok (.aload_n 0, 1) := by decide +kernel
theorem dX12_readPerson_70 : decode cX12_readPerson 70 = .ok (.bipush 11, 2) := by decide +kernel
theorem dX12_readPerson_72 : decode cX12_readPerson 72 = .ok (.iload_n 1, 1) := by decide +kernel
theorem dX12_readPerson_73 : decode cX12_readPerson 73 = .ok (.iadd, 1) := by decide +kernel
theorem dX12_readPerson_74 : decode cX12_readPerson 74 = .ok (.aload_n 0, 1) := by decide +kernel
theorem dX12_readPerson_75 : decode cX12_readPerson 75 = .ok (.iconst 0, 1) := by decide +kernel
theorem dX12_readPerson_76 : decode cX12_readPerson 76 = .ok (.iload_n 1, 1) := by decide +kernel
theorem dX12_readPerson_77 : decode cX12_readPerson 77 = .ok (.invokevirtual 194, 3) := by decide +kernel
theorem dX12_readPerson_80 : decode cX12_readPerson 80 = .ok (.invokevirtual 187, 3) := by decide +kernel
theorem dX12_readPerson_83 : decode cX12_readPerson 83 = .ok (.ifCond .ne 5, 3) := by decide +kernel
theorem dX12_readPerson_86 : decode cX12_readPerson 86 = .ok (.iconst 0, 1) := by decide +kernel
theorem dX12_readPerson_87 : decode cX12_readPerson 87 = .ok (.ireturn, 1) := by decide +kernel
theorem dX12_readPerson_88 : decode cX12_readPerson 88 = .ok (.aload_n 0, 1) := by decide +kernel
theorem dX12_readPerson_89 : decode cX12_readPerson 89 = .ok (.getfield 16, 3) := by decide +kernel
theorem dX12_readPerson_92 : decode cX12_readPerson 92 = .ok (.iconst 0, 1) := by decide +kernel
theorem dX12_readPerson_93 : decode cX12_readPerson 93 = .ok (.dup2, 1) := by decide +kernel
theorem dX12_readPerson_94 : decode cX12_readPerson 94 = .ok (.iaload, 1) := by decide +kernel
theorem dX12_readPerson_95 : decode cX12_readPerson 95 = .ok (.iconst 1, 1) := by decide +kernel
theorem dX12_readPerson_96 : decode cX12_readPerson 96 = .ok (.iadd, 1) := by decide +kernel
theorem dX12_readPerson_97 : decode cX12_readPerson 97 = .ok (.iastore, 1) := by decide +kernel
theorem dX12_readPerson_98 : decode cX12_readPerson 98 = .ok (.iconst 1, 1) := by decide +kernel
theorem dX12_readPerson_99 : decode cX12_readPerson 99 = .ok (.ireturn, 1) := by decide +kernel
theorem dX12_readPlate_0 : decode cX12_readPlate 0 = .ok (.aload_n 0, 1) := by decide +kernel
theorem dX12_readPlate_1 : decode cX12_readPlate 1 = .ok (.invokevirtual 156, 3) := by decide +kernel
theorem dX12_readPlate_4 : decode cX12_readPlate 4 = .ok (.aload_n 0, 1) := by decide +kernel
theorem dX12_readPlate_5 : decode cX12_readPlate 5 = .ok (.iconst 0, 1) := by decide +kernel
theorem dX12_readPlate_6 : decode cX12_readPlate 6 = .ok (.aload_n 0, 1) := by decide +kernel
theorem dX12_readPlate_7 : decode cX12_readPlate 7 = .ok (.getfield 16, 3) := by decide +kernel
theorem dX12_readPlate_10 : decode cX12_readPlate 10 = .ok (.iconst 0, 1) := by decide +kernel
theorem dX12_readPlate_11 : decode cX12_readPlate 11 = .ok (.iaload, 1) := by decide +kernel
theorem dX12_readPlate_12 : decode cX12_readPlate 12 = .ok (.invokevirtual 194, 3) := by decide +kernel
theorem dX12_readPlate_15 : decode cX12_readPlate 15 = .ok (.ifCond .ne 5, 3) := by decide +kernel
theorem dX12_readPlate_18 : decode cX12_readPlate 18 = .ok (.iconst 0, 1) := by decide +kernel
theorem dX12_readPlate_19 : decode cX12_readPlate 19 = .ok (.ireturn, 1) := by decide +kernel
theorem dX12_readPlate_20 : decode cX12_readPlate 20 = .ok (.bipush 30, 2) := by decide +kernel
theorem dX12_readPlate_22 : decode cX12_readPlate 22 = .ok (.bipush 6, 2) := by decide +kernel
theorem dX12_readPlate_24 : decode cX12_readPlate 24 = .ok (.aload_n 0, 1) := by decide +kernel
theorem dX12_readPlate_25 : decode cX12_readPlate 25 = .ok (.getfield 153, 3) := by decide +kernel
theorem dX12_readPlate_28 : decode cX12_readPlate 28 = .ok (.imul, 1) := by decide +kernel
theorem dX12_readPlate_29 : decode cX12_readPlate 29 = .ok (.iadd, 1) := by decide +kernel
theorem dX12_readPlate_30 : decode cX12_readPlate 30 = .ok (.istore_n 1, 1) := by decide +kernel
theorem dX12_readPlate_31 : decode cX12_readPlate 31 = .ok (.aload_n 0, 1) := by decide +kernel
theorem dX12_readPlate_32 : decode cX12_readPlate 32 = .ok (.bipush 7, 2) := by decide +kernel
theorem dX12_readPlate_34 : decode cX12_readPlate 34 = .ok (.aload_n 0, 1) := by decide +kernel
theorem dX12_readPlate_35 : decode cX12_readPlate 35 = .ok (.getfield 16, 3) := by decide +kernel
theorem dX12_readPlate_38 : decode cX12_readPlate 38 = .ok (.iconst 1, 1) := by decide +kernel
theorem dX12_readPlate_39 : decode cX12_readPlate 39 = .ok (.iaload, 1) := by decide +kernel
theorem dX12_readPlate_40 : decode cX12_readPlate 40 = .ok (.invokevirtual 174, 3) := by decide +kernel
theorem dX12_readPlate_43 : decode cX12_readPlate 43 = .ok (.ifCond .ne 5, 3) := by decide +kernel
theorem dX12_readPlate_46 : decode cX12_readPlate 46 = .ok (.iconst 0, 1) := by decide +kernel
theorem dX12_readPlate_47 : decode cX12_readPlate 47 = .ok (.ireturn, 1) := by decide +kernel
theorem dX12_readPlate_48 : decode cX12_readPlate 48 = .ok (.iload_n 1, 1) := by decide +kernel
theorem dX12_readPlate_49 : decode cX12_readPlate 49 = .ok (.aload_n 0, 1) := by decide +kernel
theorem dX12_readPlate_50 : decode cX12_readPlate 50 = .ok (.getfield 153, 3) := by decide +kernel
theorem dX12_readPlate_53 : decode cX12_readPlate 53 = .ok (.iadd, 1) := by decide +kernel
theorem dX12_readPlate_54 : decode cX12_readPlate 54 = .ok (.istore_n 1, 1) := by decide +kernel
theorem dX12_readPlate_55 : decode cX12_readPlate 55 = .ok (.aload_n 0, 1) := by decide +kernel
theorem dX12_readPlate_56 : decode cX12_readPlate 56 = .ok (.getfield 16, 3) := by decide +kernel
theorem dX12_readPlate_59 : decode cX12_readPlate 59 = .ok (.iload_n 1, 1) := by decide +kernel
theorem dX12_readPlate_60 : decode cX12_readPlate 60 = .ok (.iaload, 1) := by decide +kernel
theorem dX12_readPlate_61 : decode cX12_readPlate 61 = .ok (.ifCond .le 9, 3) := by decide +kernel
theorem dX12_readPlate_64 : decode cX12_readPlate 64 = .ok (.aload_n 0, 1) := by decide +kernel
theorem dX12_readPlate_65 : decode cX12_readPlate 65 = .ok (.iconst 3, 1) := by decide +kernel
theorem dX12_readPlate_66 : decode cX12_readPlate 66 = .ok (.invokevirtual 146, 3) := by decide +kernel
theorem dX12_readPlate_69 : decode cX12_readPlate 69 = .ok (.ireturn, 1) := by decide +kernel
theorem dX12_readPlate_70 : decode cX12_readPlate 70 = .ok (.aload_n 0, 1) := by decide +kernel
theorem dX12_readPlate_71 : decode cX12_readPlate 71 = .ok (.invokevirtual 156, 3) := by decide +kernel
theorem dX12_readPlate_74 : decode cX12_readPlate 74 = .ok (.aload_n 0, 1) := by decide +kernel
theorem dX12_readPlate_75 : decode cX12_readPlate 75 = .ok (.iload_n 1, 1) := by decide +kernel
theorem dX12_readPlate_76 : decode cX12_readPlate 76 = .ok (.aload_n 0, 1) := by decide +kernel
theorem dX12_readPlate_77 : decode cX12_readPlate 77 = .ok (.iconst 1, 1) := by decide +kernel
theorem dX12_readPlate_78 : decode cX12_readPlate 78 = .ok (.bipush 40, 2) := by decide +kernel
theorem dX12_readPlate_80 : decode cX12_readPlate 80 = .ok (.invokevirtual 184, 3) := by decide +kernel
theorem dX12_readPlate_83 : decode cX12_readPlate 83 = .ok (.invokevirtual 187, 3) := by decide +kernel
theorem dX12_readPlate_86 : decode cX12_readPlate 86 = .ok (.ireturn, 1) := by decide +kernel
theorem dX12_startSo_0 : decode cX12_startSo 0 = .ok (.bipush 72, 2) := by decide +kernel
theorem dX12_startSo_2 : decode cX12_startSo 2 = .ok (.istore_n 1, 1) := by decide +kernel
theorem dX12_startSo_3 : decode cX12_startSo 3 = .ok (.iload_n 1, 1) := by decide +kernel
theorem dX12_startSo_4 : decode cX12_startSo 4 = .ok (.sipush 389, 3) := by decide +kernel
theorem dX12_startSo_7 : decode cX12_startSo 7 = .ok (.if_icmp .ge 16, 3) := by decide +kernel
theorem dX12_startSo_10 : decode cX12_startSo 10 = .ok (.aload_n 0, 1) := by decide +kernel
theorem dX12_startSo_11 : decode cX12_startSo 11 = .ok (.getfield 13, 3) := by decide +kernel
theorem dX12_startSo_14 : decode cX12_startSo 14 = .ok (.iload_n 1, 1) := by decide +kernel
theorem dX12_startSo_15 : decode cX12_startSo 15 = .ok (.iconst 0, 1) := by decide +kernel
theorem dX12_startSo_16 : decode cX12_startSo 16 = .ok (.iastore, 1) := by decide +kernel
theorem dX12_startSo_17 : decode cX12_startSo 17 = .ok (.iinc 1 1, 3) := by decide +kernel
theorem dX12_startSo_20 : decode cX12_startSo 20 = .ok (.goto (-17), 3) := by decide +kernel
theorem dX12_startSo_23 : decode cX12_startSo 23 = .ok (.iconst 0, 1) := by decide +kernel
theorem dX12_startSo_24 : decode cX12_startSo 24 = .ok (.istore_n 1, 1) := by decide +kernel
theorem dX12_startSo_25 : decode cX12_startSo 25 = .ok (.iload_n 1, 1) := by decide +kernel
theorem dX12_startSo_26 : decode cX12_startSo 26 = .ok (.bipush 6, 2) := by decide +kernel
theorem dX12_startSo_28 : decode cX12_startSo 28 = .ok (.if_icmp .ge 27, 3) := by decide +kernel
theorem dX12_startSo_31 : decode cX12_startSo 31 = .ok (.aload_n 0, 1) := by decide +kernel
theorem dX12_startSo_32 : decode cX12_startSo 32 = .ok (.getfield 13, 3) := by decide +kernel
theorem dX12_startSo_35 : decode cX12_startSo 35 = .ok (.bipush 78, 2) := by decide +kernel
theorem dX12_startSo_37 : decode cX12_startSo 37 = .ok (.iload_n 1, 1) := by decide +kernel
theorem dX12_startSo_38 : decode cX12_startSo 38 = .ok (.iadd, 1) := by decide +kernel
theorem dX12_startSo_39 : decode cX12_startSo 39 = .ok (.aload_n 0, 1) := by decide +kernel
theorem dX12_startSo_40 : decode cX12_startSo 40 = .ok (.getfield 13, 3) := by decide +kernel
theorem dX12_startSo_43 : decode cX12_startSo 43 = .ok (.bipush 18, 2) := by decide +kernel
theorem dX12_startSo_45 : decode cX12_startSo 45 = .ok (.iload_n 1, 1) := by decide +kernel
theorem dX12_startSo_46 : decode cX12_startSo 46 = .ok (.iadd, 1) := by decide +kernel
theorem dX12_startSo_47 : decode cX12_startSo 47 = .ok (.iaload, 1) := by decide +kernel
theorem dX12_startSo_48 : decode cX12_startSo 48 = .ok (.iastore, 1) := by decide +kernel
theorem dX12_startSo_49 : decode cX12_startSo 49 = .ok (.iinc 1 1, 3) := by decide +kernel
theorem dX12_startSo_52 : decode cX12_startSo 52 = .ok (.goto (-27), 3) := by decide +kernel
theorem dX12_startSo_55 : decode cX12_startSo 55 = .ok (.iconst 0, 1) := by decide +kernel
theorem dX12_startSo_56 : decode cX12_startSo 56 = .ok (.istore_n 1, 1) := by decide +kernel
theorem dX12_startSo_57 : decode cX12_startSo 57 = .ok (.iload_n 1, 1) := by decide +kernel
theorem dX12_startSo_58 : decode cX12_startSo 58 = .ok (.bipush 42, 2) := by decide +kernel
theorem dX12_startSo_60 : decode cX12_startSo 60 = .ok (.if_icmp .ge 27, 3) := by decide +kernel
theorem dX12_startSo_63 : decode cX12_startSo 63 = .ok (.aload_n 0, 1) := by decide +kernel
theorem dX12_startSo_64 : decode cX12_startSo 64 = .ok (.getfield 13, 3) := by decide +kernel
theorem dX12_startSo_67 : decode cX12_startSo 67 = .ok (.bipush 105, 2) := by decide +kernel
theorem dX12_startSo_69 : decode cX12_startSo 69 = .ok (.iload_n 1, 1) := by decide +kernel
theorem dX12_startSo_70 : decode cX12_startSo 70 = .ok (.iadd, 1) := by decide +kernel
theorem dX12_startSo_71 : decode cX12_startSo 71 = .ok (.aload_n 0, 1) := by decide +kernel
theorem dX12_startSo_72 : decode cX12_startSo 72 = .ok (.getfield 13, 3) := by decide +kernel
theorem dX12_startSo_75 : decode cX12_startSo 75 = .ok (.bipush 30, 2) := by decide +kernel
theorem dX12_startSo_77 : decode cX12_startSo 77 = .ok (.iload_n 1, 1) := by decide +kernel
theorem dX12_startSo_78 : decode cX12_startSo 78 = .ok (.iadd, 1) := by decide +kernel
theorem dX12_startSo_79 : decode cX12_startSo 79 = .ok (.iaload, 1) := by decide +kernel
theorem dX12_startSo_80 : decode cX12_startSo 80 = .ok (.iastore, 1) := by decide +kernel
theorem dX12_startSo_81 : decode cX12_startSo 81 = .ok (.iinc 1 1, 3) := by decide +kernel
theorem dX12_startSo_84 : decode cX12_startSo 84 = .ok (.goto (-27), 3) := by decide +kernel
theorem dX12_startSo_87 : decode cX12_startSo 87 = .ok (.return_, 1) := by decide +kernel
theorem rc_78 : Rg 78 78 78 := ⟨by decide, by decide⟩
theorem rc_389 : Rg 389 389 389 := ⟨by decide, by decide⟩
set_option maxRecDepth 100000 in
set_option maxHeartbeats 8000000 in
theorem c_X12_readNumber_0_9 {l : Launch} {D : va_G} {cy : Nat → ClassId} {L : List Nat} {κ ln : Nat → Nat} {R : Nat → Nat → Option Nat} {I : Nat → Nat → Int32} {J : Nat → Nat → Int64} {ow : Nat → Nat × Nat} (W9 : ∀ a ∈ L, Shp L κ ln R ow a) {x : Nat} (hLx : x ∈ L) (hkx : κ x = 12) (hU : Iw L κ R ow I) : CtI l yX12_readNumber cX12_readNumber 3 (some .boolean) { frames := 2, cells := 0, slots := 0, locals := 45 } D cy L κ ln R I J [.ref x, .int 0, .int 9] (fun r I2 J2 => Iw L κ R ow I2 ∧ Fq L κ ow [1205, 1206, 1207, 1208, 1209, 1210, 1211, 1213] I I2 ∧ Fq L κ ow [1212] J J2 ∧ Rg 0 1 r ∧ ((r, MTf R I2 J2 x, NRf R I2 J2 x) = mReadNumber (0) (9) (MTf R I J x) (NRf R I J x)) ∧ (Pg_ x I I2 ∧ (¬ r = 0 → Ps_ x I I2)) ∧ (¬ r = 0 → Rg 0 9 (I2 x 13))) := by
  refine CtI.of (by decide +kernel) (Nat.le_of_ble_eq_true rfl) ?_
  intro p e s m below meth c B K
  have C := B.1
  have hF : Fq L κ ow [1205, 1206, 1207, 1208, 1209, 1210, 1211, 1213] I I := fq_rf
  have hG : Fq L κ ow [1212] J J := fq_rf
  obtain ⟨b_1, hb_1, hb_1L, hb_1k, hb_1n, hb_1o⟩ := shp_a (W9 x hLx) hkx 1 14 940 rfl (by decide)
  have emqx : ∀ I J, MTf R I J x = MTq I J x b_1 := fun I J => by simp only [MTf, rr_, Option.getD_some, hb_1]
  have wmqx : mqw_ L κ ow x b_1 := ⟨⟨hLx, hb_1L⟩, ⟨(ro_o hkx (by decide)), (ro_a hb_1k (by decide) hb_1o hkx rfl)⟩⟩
  obtain ⟨s_2, hs_2⟩ : ∃ z, MTq I J x b_1 = z := ⟨_, rfl⟩
  obtain ⟨b_3, hb_3, hb_3L, hb_3k, hb_3n, hb_3o⟩ := shp_a (W9 x hLx) hkx 15 14 72 rfl (by decide)
  obtain ⟨b_4, hb_4, hb_4L, hb_4k, hb_4n, hb_4o⟩ := shp_a (W9 x hLx) hkx 20 15 13 rfl (by decide)
  have enqx : ∀ I J, NRf R I J x = NRq I J x b_3 b_4 := fun I J => by simp only [NRf, rr_, Option.getD_some, hb_3, hb_4]
  have wnqx : nqw_ L κ ow x b_3 b_4 := ⟨⟨hLx, hb_3L, hb_4L⟩, ⟨(ro_o hkx (by decide)), (ro_a hb_3k (by decide) hb_3o hkx rfl), (ro_a hb_4k (by decide) hb_4o hkx rfl)⟩⟩
  obtain ⟨s_5, hs_5⟩ : ∃ z, NRq I J x b_3 b_4 = z := ⟨_, rfl⟩
  refine g_lo (is := [0, 1, 2]) (lo2 := [(0, .ref x), (1, .int 0), (2, .int 9)]) rfl ?_
  refine g_aload_n C 0 dX12_readNumber_0 rfl rfl ?_
  obtain ⟨x_6, hx_6, rx_6⟩ := ex_getw (I := I) (a := x) (j := 7) (lo := 0) (hi := 4) hU.1 hLx (ro_o hkx (by decide)) rfl
  have f_7 : s_2.kind = x_6 := (congrArg MT_.kind hs_2).symm.trans hx_6
  refine g_getI C K hLx hkx f_12_104 (v := x_6) hx_6 dX12_readNumber_1 ?_
  refine g_iconst C (v := 3) dX12_readNumber_4 (by decide) ?_
  refine g_icmp_eq C (tgt := 14) dX12_readNumber_5 (by decide) (fun h_8 => ?_) (fun h_8 => ?_)
  · skip
    have r_9 := (⟨(eq_rg (h_8) rc_3).1, (eq_rg (h_8) rc_3).2⟩ : Rg 3 3 x_6)
    refine g_aload_n C 0 dX12_readNumber_14 rfl rfl ?_
    obtain ⟨x_10, hx_10, rx_10⟩ := ex_getw (I := I) (a := x) (j := 8) (lo := (-2147483648)) (hi := 2147483647) hU.1 hLx (ro_o hkx (by decide)) rfl
    have f_11 : s_2.number = x_10 := (congrArg MT_.number hs_2).symm.trans hx_10
    refine g_getI C K hLx hkx f_12_121 (v := x_10) hx_10 dX12_readNumber_15 ?_
    refine g_iload_n C 1 dX12_readNumber_18 rfl rfl ?_
    refine g_iload_n C 2 dX12_readNumber_19 rfl rfl ?_
    refine g_callSI C K (c_X12_isIn W9 x_10 0 9 (rg_w rc_0 (by decide) (by decide)) (rg_w rc_9 (by decide) (by decide)) hU) s_12_149 rfl ⟨rfl, rfl⟩ ⟨Nat.le_of_ble_eq_true rfl, Nat.le_of_ble_eq_true rfl⟩ (Nat.le_of_ble_eq_true rfl) ⟨Nat.le_of_ble_eq_true rfl, Nat.le_of_ble_eq_true rfl⟩ dX12_readNumber_20 rfl (st := []) (fun x_12 I_13 J_14 h_15 => ?_)
    obtain ⟨rfl, rfl, rx_12, fx_12, ex_12⟩ := h_15
    have c_16 : isIn_ (x_10) (0) (9) = x_12 := fx_12.symm
    refine g_if_ne C (tgt := 32) dX12_readNumber_23 (by decide) (fun h_17 => ?_) (fun h_17 => ?_)
    · skip
      have n_18 : ¬ x_12 = 0 := h_17
      have r_19 := ne_lo (lo := 1) n_18 rx_12 rc_0 rfl (by decide)
      have r_20 := le_r (((ex_12.1) n_18)) rc_0 rx_10
      have r_21 := le_l (((ex_12.2) n_18)) r_20 rc_9
      refine g_aload_n C 0 dX12_readNumber_32 rfl rfl ?_
      refine g_aload_n C 0 dX12_readNumber_33 rfl rfl ?_
      refine g_getI C K hLx hkx f_12_121 (v := x_10) hx_10 dX12_readNumber_34 ?_
      refine h_putI C K hLx hkx f_12_153 p_12_13 dX12_readNumber_37 (fun I_22 hI_22 => ?_)
      have hU_23 := iw_put W9 hU hI_22 (ro_o hkx (by decide)) (lo := (-2147483648)) (hi := 2147483647) (rfl) (rg_all _) rfl
      have hF_24 := fq_puto hF hI_22 hkx (by decide) (by decide)
      have hs_25 : MTq I_22 J x b_1 = s_2 := by rw [hI_22]; exact (mq_uIt wmqx (by decide)).trans hs_2
      have hs_26 : NRq I_22 J x b_3 b_4 = (NR_.w_told s_5 (x_10)) := by rw [hI_22]; exact ((nq_told wnqx).trans (congrArg (fun z : NR_ => NR_.w_told z (x_10)) hs_5)).trans rfl
      refine g_aload_n C 0 dX12_readNumber_40 rfl rfl ?_
      refine g_callVV C K (c_X12_go W9 hLx hkx   hU_23) hLx hkx (by decide) rfl v_12_156 rfl ⟨rfl, rfl⟩ ⟨Nat.le_of_ble_eq_true rfl, Nat.le_of_ble_eq_true rfl⟩ (Nat.le_of_ble_eq_true rfl) ⟨Nat.le_of_ble_eq_true rfl, Nat.le_of_ble_eq_true rfl⟩ dX12_readNumber_41 rfl (st := []) (fun I_28 J_29 h_30 => ?_)
      obtain ⟨hUI_28, hFI_28, hGJ_29, fx_27, ex_27⟩ := h_30
      have hF_31 := fq_tr hF_24 hFI_28 (by decide)
      have hG_32 := fq_tr hG hGJ_29 (by decide)
      obtain ⟨s_34, hs_34⟩ : ∃ z, MTq I_28 J_29 x b_1 = z := ⟨_, rfl⟩
      have c_33 : mGo (s_2) = s_34 := by have q := fx_27; simp only [emqx, hs_25, hs_34] at q; exact q.symm
      have hs_35 : NRq I_28 J_29 x b_3 b_4 = (NR_.w_told s_5 (x_10)) := (nq_fq wnqx hFI_28 hGJ_29 (by decide) (by decide)).trans hs_26
      refine g_iconst C (v := 1) dX12_readNumber_44 (by decide) ?_
      exact g_zret (ty := .boolean) (r := 1) B K rfl (rfl) ⟨hUI_28, hF_31, hG_32, rg_w rc_1 (by decide) (by decide), (by simp only [mReadNumber, emqx, hs_34, hs_2, enqx, hs_35, hs_5, hx_6, f_7, (eq_true h_8), hx_10, f_11, c_16, h_17, c_33, if_true, if_false, mqM_tp, mqM_size, mqM_limit, mqM_to, mqM_frm, mqM_kind, mqM_number, mqM_sign, mqM_word, MT_.w_tp, MT_.w_size, MT_.w_limit, MT_.w_to, MT_.w_frm, MT_.w_kind, MT_.w_number, MT_.w_sign, MT_.w_word, nqM_rd, nqM_rn, nqM_taped, nqM_mfault, nqM_mplace, nqM_told, nqM_hl, nqM_hd, NR_.w_rd, NR_.w_rn, NR_.w_taped, NR_.w_mfault, NR_.w_mplace, NR_.w_told, NR_.w_hl, NR_.w_hd]), ⟨(pg_s (ps_t2 (pg_u pg_rf hI_22 (Or.inr (by decide)) (Or.inr (by decide))) ex_27)), fun _ => (ps_t2 (pg_u pg_rf hI_22 (Or.inr (by decide)) (Or.inr (by decide))) ex_27)⟩, (fun _ => eq_rg (fq_at hFI_28 hLx hkx (by decide) (by decide) (kp_s hI_22)) (r_21))⟩ dX12_readNumber_45
    · skip
      have r_36 := (⟨(rx_12).1, (eq_rg (h_17) rc_0).2⟩ : Rg 0 0 x_12)
      refine g_aload_n C 0 dX12_readNumber_26 rfl rfl ?_
      refine g_iconst C (v := 2) dX12_readNumber_27 (by decide) ?_
      refine g_callVI C K (c_X12_bad W9 hLx hkx 2 (rg_w rc_2 (by decide) (by decide)) hU) hLx hkx (by decide) rfl v_12_146 rfl ⟨rfl, rfl⟩ ⟨Nat.le_of_ble_eq_true rfl, Nat.le_of_ble_eq_true rfl⟩ (Nat.le_of_ble_eq_true rfl) ⟨Nat.le_of_ble_eq_true rfl, Nat.le_of_ble_eq_true rfl⟩ dX12_readNumber_28 rfl (st := []) (fun x_37 I_38 J_39 h_40 => ?_)
      obtain ⟨hUI_38, hFI_38, hGJ_39, rx_37, fx_37⟩ := h_40
      have hF_41 := fq_tr hF hFI_38 (by decide)
      have hG_42 := fq_tr hG hGJ_39 (by decide)
      obtain ⟨s_44, hs_44⟩ : ∃ z, MTq I_38 J_39 x b_1 = z := ⟨_, rfl⟩
      obtain ⟨s_45, hs_45⟩ : ∃ z, NRq I_38 J_39 x b_3 b_4 = z := ⟨_, rfl⟩
      have c_43 : mBad (2) (s_2) (s_5) = (x_37, s_44, s_45) := by have q := fx_37; simp only [emqx, enqx, hs_2, hs_5, hs_44, hs_45] at q; exact q.symm
      exact g_zret (ty := .boolean) (r := x_37) B K rfl (nar_z (rg_w rx_37 (by decide) (by decide))) ⟨hUI_38, hF_41, hG_42, rg_w rx_37 (by decide) (by decide), (by simp only [mReadNumber, emqx, hs_44, hs_2, enqx, hs_45, hs_5, hx_6, f_7, (eq_true h_8), hx_10, f_11, c_16, (eq_true h_17), c_43, if_true, if_false, mqM_tp, mqM_size, mqM_limit, mqM_to, mqM_frm, mqM_kind, mqM_number, mqM_sign, mqM_word, MT_.w_tp, MT_.w_size, MT_.w_limit, MT_.w_to, MT_.w_frm, MT_.w_kind, MT_.w_number, MT_.w_sign, MT_.w_word, nqM_rd, nqM_rn, nqM_taped, nqM_mfault, nqM_mplace, nqM_told, nqM_hl, nqM_hd, NR_.w_rd, NR_.w_rn, NR_.w_taped, NR_.w_mfault, NR_.w_mplace, NR_.w_told, NR_.w_hl, NR_.w_hd]), ⟨(pg_fq pg_rf hFI_38 hLx hkx (by decide) (by decide)), fun q => ne_no q rx_37 rc_0⟩, (fun q => ne_no q rx_37 rc_0)⟩ dX12_readNumber_31
  · skip
    have n_46 : ¬ x_6 = 3 := h_8
    refine g_aload_n C 0 dX12_readNumber_8 rfl rfl ?_
    refine g_iconst C (v := 1) dX12_readNumber_9 (by decide) ?_
    refine g_callVI C K (c_X12_bad W9 hLx hkx 1 (rg_w rc_1 (by decide) (by decide)) hU) hLx hkx (by decide) rfl v_12_146 rfl ⟨rfl, rfl⟩ ⟨Nat.le_of_ble_eq_true rfl, Nat.le_of_ble_eq_true rfl⟩ (Nat.le_of_ble_eq_true rfl) ⟨Nat.le_of_ble_eq_true rfl, Nat.le_of_ble_eq_true rfl⟩ dX12_readNumber_10 rfl (st := []) (fun x_47 I_48 J_49 h_50 => ?_)
    obtain ⟨hUI_48, hFI_48, hGJ_49, rx_47, fx_47⟩ := h_50
    have hF_51 := fq_tr hF hFI_48 (by decide)
    have hG_52 := fq_tr hG hGJ_49 (by decide)
    obtain ⟨s_54, hs_54⟩ : ∃ z, MTq I_48 J_49 x b_1 = z := ⟨_, rfl⟩
    obtain ⟨s_55, hs_55⟩ : ∃ z, NRq I_48 J_49 x b_3 b_4 = z := ⟨_, rfl⟩
    have c_53 : mBad (1) (s_2) (s_5) = (x_47, s_54, s_55) := by have q := fx_47; simp only [emqx, enqx, hs_2, hs_5, hs_54, hs_55] at q; exact q.symm
    exact g_zret (ty := .boolean) (r := x_47) B K rfl (nar_z (rg_w rx_47 (by decide) (by decide))) ⟨hUI_48, hF_51, hG_52, rg_w rx_47 (by decide) (by decide), (by simp only [mReadNumber, emqx, hs_54, hs_2, enqx, hs_55, hs_5, hx_6, f_7, h_8, c_53, if_true, if_false, mqM_tp, mqM_size, mqM_limit, mqM_to, mqM_frm, mqM_kind, mqM_number, mqM_sign, mqM_word, MT_.w_tp, MT_.w_size, MT_.w_limit, MT_.w_to, MT_.w_frm, MT_.w_kind, MT_.w_number, MT_.w_sign, MT_.w_word, nqM_rd, nqM_rn, nqM_taped, nqM_mfault, nqM_mplace, nqM_told, nqM_hl, nqM_hd, NR_.w_rd, NR_.w_rn, NR_.w_taped, NR_.w_mfault, NR_.w_mplace, NR_.w_told, NR_.w_hl, NR_.w_hd]), ⟨(pg_fq pg_rf hFI_48 hLx hkx (by decide) (by decide)), fun q => ne_no q rx_47 rc_0⟩, (fun q => ne_no q rx_47 rc_0)⟩ dX12_readNumber_13
set_option maxRecDepth 100000 in
set_option maxHeartbeats 8000000 in
theorem c_X12_put_11_17 {l : Launch} {D : va_G} {cy : Nat → ClassId} {L : List Nat} {κ ln : Nat → Nat} {R : Nat → Nat → Option Nat} {I : Nat → Nat → Int32} {J : Nat → Nat → Int64} {ow : Nat → Nat × Nat} (W9 : ∀ a ∈ L, Shp L κ ln R ow a) {x : Nat} (hLx : x ∈ L) (hkx : κ x = 12) (a0 : Int32) (a1 : Int32) (ra0 : Rg 11 17 a0) (ra1 : Rg 0 1 a1) (hU : Iw L κ R ow I) : CtI l yX12_put cX12_put 3 (some .boolean) { frames := 0, cells := 0, slots := 0, locals := 0 } D cy L κ ln R I J [.ref x, .int a0, .int a1] (fun r I2 J2 => Iw L κ R ow I2 ∧ Fq L κ ow [83500] I I2 ∧ Fq L κ ow [] J J2 ∧ Rg 0 1 r ∧ ((r, NRf R I2 J2 x) = mPut a0 a1 (NRf R I J x)) ∧ r = a1 ∧ (∀ a, R x 15 = some a → I2 a 0 = I a 0 ∧ I2 a 1 = I a 1)) := by
  refine CtI.of (by decide +kernel) (Nat.le_of_ble_eq_true rfl) ?_
  intro p e s m below meth c B K
  have C := B.1
  have hF : Fq L κ ow [83500] I I := fq_rf
  have hG : Fq L κ ow [] J J := fq_rf
  obtain ⟨b_1, hb_1, hb_1L, hb_1k, hb_1n, hb_1o⟩ := shp_a (W9 x hLx) hkx 15 14 72 rfl (by decide)
  obtain ⟨b_2, hb_2, hb_2L, hb_2k, hb_2n, hb_2o⟩ := shp_a (W9 x hLx) hkx 20 15 13 rfl (by decide)
  have enqx : ∀ I J, NRf R I J x = NRq I J x b_1 b_2 := fun I J => by simp only [NRf, rr_, Option.getD_some, hb_1, hb_2]
  have wnqx : nqw_ L κ ow x b_1 b_2 := ⟨⟨hLx, hb_1L, hb_2L⟩, ⟨(ro_o hkx (by decide)), (ro_a hb_1k (by decide) hb_1o hkx rfl), (ro_a hb_2k (by decide) hb_2o hkx rfl)⟩⟩
  obtain ⟨s_3, hs_3⟩ : ∃ z, NRq I J x b_1 b_2 = z := ⟨_, rfl⟩
  refine g_lo (is := [0, 1, 2]) (lo2 := [(0, .ref x), (1, .int a0), (2, .int a1)]) rfl ?_
  refine g_iload_n C 2 dX12_put_0 rfl rfl ?_
  refine g_if_eq C (tgt := 14) dX12_put_1 (by decide) (fun h_4 => ?_) (fun h_4 => ?_)
  · skip
    have r_5 := (⟨(ra1).1, (eq_rg (h_4) rc_0).2⟩ : Rg 0 0 a1)
    refine g_iload_n C 2 dX12_put_14 rfl rfl ?_
    exact g_zret (ty := .boolean) (r := a1) B K rfl (nar_z (rg_w r_5 (by decide) (by decide))) ⟨hU, hF, hG, rg_w r_5 (by decide) (by decide), (by simp only [mPut, enqx, hs_3, (eq_true h_4), if_true, if_false, nqM_rd, nqM_rn, nqM_taped, nqM_mfault, nqM_mplace, nqM_told, nqM_hl, nqM_hd, NR_.w_rd, NR_.w_rn, NR_.w_taped, NR_.w_mfault, NR_.w_mplace, NR_.w_told, NR_.w_hl, NR_.w_hd]), rfl, (fun a ha => ⟨rfl, rfl⟩)⟩ dX12_put_15
  · skip
    have n_6 : ¬ a1 = 0 := h_4
    have r_7 := ne_lo (lo := 1) n_6 ra1 rc_0 rfl (by decide)
    refine g_aload_n C 0 dX12_put_4 rfl rfl ?_
    refine g_getR C K hLx hkx f_12_16 hb_1 dX12_put_5 ?_
    refine g_iload_n C 1 dX12_put_8 rfl rfl ?_
    refine g_aload_n C 0 dX12_put_9 rfl rfl ?_
    obtain ⟨x_8, hx_8, rx_8⟩ := ex_getw (I := I) (a := x) (j := 13) (lo := (-2147483648)) (hi := 2147483647) hU.1 hLx (ro_o hkx (by decide)) rfl
    have f_9 : s_3.told = x_8 := (congrArg NR_.told hs_3).symm.trans hx_8
    refine g_getI C K hLx hkx f_12_153 (v := x_8) hx_8 dX12_put_10 ?_
    refine h_iast C K hb_1L hb_1k (a0.toNatClampNeg) (rfl) (ix_0 ra0 (by decide)) (ix_lt ra0 (by decide) hb_1n (by decide)) dX12_put_13 (fun I_10 hI_10 => ?_)
    have hU_11 := iw_put W9 hU hI_10 (ro_a hb_1k (by decide) hb_1o hkx rfl) (lo := (-2147483648)) (hi := 2147483647) (bn_835.trans (zq_11 (ix_k (lo := 11) (hi := 17) ra0 (by decide) (by decide) (by decide)))) (rx_8) rfl
    have hF_12 := fq_puta hF hI_10 (ro_a hb_1k (by decide) hb_1o hkx rfl) (by decide) (by decide)
    have hs_13 : NRq I_10 J x b_1 b_2 = (NR_.w_rd s_3 (up1 (s_3.rd) (a0.toNatClampNeg) (x_8))) := by rw [hI_10]; exact ((nq_rd wnqx).trans (congrArg (fun z : NR_ => NR_.w_rd z (up1 (z.rd) (a0.toNatClampNeg) (x_8))) hs_3)).trans rfl
    refine g_iload_n C 2 dX12_put_14 rfl rfl ?_
    exact g_zret (ty := .boolean) (r := a1) B K rfl (nar_z (rg_w r_7 (by decide) (by decide))) ⟨hU_11, hF_12, hG, rg_w r_7 (by decide) (by decide), (by simp only [mPut, enqx, hs_13, hs_3, h_4, hx_8, f_9, if_true, if_false, nqM_rd, nqM_rn, nqM_taped, nqM_mfault, nqM_mplace, nqM_told, nqM_hl, nqM_hd, NR_.w_rd, NR_.w_rn, NR_.w_taped, NR_.w_mfault, NR_.w_mplace, NR_.w_told, NR_.w_hl, NR_.w_hd]), rfl, (fun a ha => by rw [hb_1] at ha; cases ha; exact ⟨kp_j hI_10 (ix_ne ra0 (by decide)) rfl, kp_j hI_10 (ix_ne ra0 (by decide)) rfl⟩)⟩ dX12_put_15
set_option maxRecDepth 100000 in
set_option maxHeartbeats 8000000 in
theorem c_X12_put_4_10 {l : Launch} {D : va_G} {cy : Nat → ClassId} {L : List Nat} {κ ln : Nat → Nat} {R : Nat → Nat → Option Nat} {I : Nat → Nat → Int32} {J : Nat → Nat → Int64} {ow : Nat → Nat × Nat} (W9 : ∀ a ∈ L, Shp L κ ln R ow a) {x : Nat} (hLx : x ∈ L) (hkx : κ x = 12) (a0 : Int32) (a1 : Int32) (ra0 : Rg 4 10 a0) (ra1 : Rg 0 1 a1) (hU : Iw L κ R ow I) (hg : ¬ a1 = 0 → Rg 0 20 (I x 13)) : CtI l yX12_put cX12_put 3 (some .boolean) { frames := 0, cells := 0, slots := 0, locals := 0 } D cy L κ ln R I J [.ref x, .int a0, .int a1] (fun r I2 J2 => Iw L κ R ow I2 ∧ Fq L κ ow [83500] I I2 ∧ Fq L κ ow [] J J2 ∧ Rg 0 1 r ∧ ((r, NRf R I2 J2 x) = mPut a0 a1 (NRf R I J x)) ∧ r = a1 ∧ (∀ a, R x 15 = some a → I2 a 0 = I a 0 ∧ I2 a 1 = I a 1)) := by
  refine CtI.of (by decide +kernel) (Nat.le_of_ble_eq_true rfl) ?_
  intro p e s m below meth c B K
  have C := B.1
  have hF : Fq L κ ow [83500] I I := fq_rf
  have hG : Fq L κ ow [] J J := fq_rf
  obtain ⟨b_1, hb_1, hb_1L, hb_1k, hb_1n, hb_1o⟩ := shp_a (W9 x hLx) hkx 15 14 72 rfl (by decide)
  obtain ⟨b_2, hb_2, hb_2L, hb_2k, hb_2n, hb_2o⟩ := shp_a (W9 x hLx) hkx 20 15 13 rfl (by decide)
  have enqx : ∀ I J, NRf R I J x = NRq I J x b_1 b_2 := fun I J => by simp only [NRf, rr_, Option.getD_some, hb_1, hb_2]
  have wnqx : nqw_ L κ ow x b_1 b_2 := ⟨⟨hLx, hb_1L, hb_2L⟩, ⟨(ro_o hkx (by decide)), (ro_a hb_1k (by decide) hb_1o hkx rfl), (ro_a hb_2k (by decide) hb_2o hkx rfl)⟩⟩
  obtain ⟨s_3, hs_3⟩ : ∃ z, NRq I J x b_1 b_2 = z := ⟨_, rfl⟩
  refine g_lo (is := [0, 1, 2]) (lo2 := [(0, .ref x), (1, .int a0), (2, .int a1)]) rfl ?_
  refine g_iload_n C 2 dX12_put_0 rfl rfl ?_
  refine g_if_eq C (tgt := 14) dX12_put_1 (by decide) (fun h_4 => ?_) (fun h_4 => ?_)
  · skip
    have r_5 := (⟨(ra1).1, (eq_rg (h_4) rc_0).2⟩ : Rg 0 0 a1)
    refine g_iload_n C 2 dX12_put_14 rfl rfl ?_
    exact g_zret (ty := .boolean) (r := a1) B K rfl (nar_z (rg_w r_5 (by decide) (by decide))) ⟨hU, hF, hG, rg_w r_5 (by decide) (by decide), (by simp only [mPut, enqx, hs_3, (eq_true h_4), if_true, if_false, nqM_rd, nqM_rn, nqM_taped, nqM_mfault, nqM_mplace, nqM_told, nqM_hl, nqM_hd, NR_.w_rd, NR_.w_rn, NR_.w_taped, NR_.w_mfault, NR_.w_mplace, NR_.w_told, NR_.w_hl, NR_.w_hd]), rfl, (fun a ha => ⟨rfl, rfl⟩)⟩ dX12_put_15
  · skip
    have n_6 : ¬ a1 = 0 := h_4
    have r_7 := ne_lo (lo := 1) n_6 ra1 rc_0 rfl (by decide)
    obtain ⟨x_8, hx_8, rx_8⟩ := ex_getw (I := I) (a := x) (j := 13) (lo := (-2147483648)) (hi := 2147483647) hU.1 hLx (ro_o hkx (by decide)) rfl
    have f_9 : s_3.told = x_8 := (congrArg NR_.told hs_3).symm.trans hx_8
    have r_10 := rg_i rx_8 (eq_rg hx_8.symm (hg n_6)) (lo := 0) (hi := 20) (by decide) (by decide)
    refine g_aload_n C 0 dX12_put_4 rfl rfl ?_
    refine g_getR C K hLx hkx f_12_16 hb_1 dX12_put_5 ?_
    refine g_iload_n C 1 dX12_put_8 rfl rfl ?_
    refine g_aload_n C 0 dX12_put_9 rfl rfl ?_
    refine g_getI C K hLx hkx f_12_153 (v := x_8) hx_8 dX12_put_10 ?_
    refine h_iast C K hb_1L hb_1k (a0.toNatClampNeg) (rfl) (ix_0 ra0 (by decide)) (ix_lt ra0 (by decide) hb_1n (by decide)) dX12_put_13 (fun I_11 hI_11 => ?_)
    have hU_12 := iw_put W9 hU hI_11 (ro_a hb_1k (by decide) hb_1o hkx rfl) (lo := 0) (hi := 20) (bn_835.trans (zq_4 (ix_k (lo := 4) (hi := 10) ra0 (by decide) (by decide) (by decide)))) (r_10) rfl
    have hF_13 := fq_puta hF hI_11 (ro_a hb_1k (by decide) hb_1o hkx rfl) (by decide) (by decide)
    have hs_14 : NRq I_11 J x b_1 b_2 = (NR_.w_rd s_3 (up1 (s_3.rd) (a0.toNatClampNeg) (x_8))) := by rw [hI_11]; exact ((nq_rd wnqx).trans (congrArg (fun z : NR_ => NR_.w_rd z (up1 (z.rd) (a0.toNatClampNeg) (x_8))) hs_3)).trans rfl
    refine g_iload_n C 2 dX12_put_14 rfl rfl ?_
    exact g_zret (ty := .boolean) (r := a1) B K rfl (nar_z (rg_w r_7 (by decide) (by decide))) ⟨hU_12, hF_13, hG, rg_w r_7 (by decide) (by decide), (by simp only [mPut, enqx, hs_14, hs_3, h_4, hx_8, f_9, if_true, if_false, nqM_rd, nqM_rn, nqM_taped, nqM_mfault, nqM_mplace, nqM_told, nqM_hl, nqM_hd, NR_.w_rd, NR_.w_rn, NR_.w_taped, NR_.w_mfault, NR_.w_mplace, NR_.w_told, NR_.w_hl, NR_.w_hd]), rfl, (fun a ha => by rw [hb_1] at ha; cases ha; exact ⟨kp_j hI_11 (ix_ne ra0 (by decide)) rfl, kp_j hI_11 (ix_ne ra0 (by decide)) rfl⟩)⟩ dX12_put_15
set_option maxRecDepth 100000 in
set_option maxHeartbeats 8000000 in
theorem c_X12_readFirst_0_7 {l : Launch} {D : va_G} {cy : Nat → ClassId} {L : List Nat} {κ ln : Nat → Nat} {R : Nat → Nat → Option Nat} {I : Nat → Nat → Int32} {J : Nat → Nat → Int64} {ow : Nat → Nat × Nat} (W9 : ∀ a ∈ L, Shp L κ ln R ow a) {x : Nat} (hLx : x ∈ L) (hkx : κ x = 12) (hU : Iw L κ R ow I) : CtI l yX12_readFirst cX12_readFirst 3 (some .boolean) { frames := 2, cells := 0, slots := 0, locals := 45 } D cy L κ ln R I J [.ref x, .int 0, .int 7] (fun r I2 J2 => Iw L κ R ow I2 ∧ Fq L κ ow [1205, 1206, 1207, 1208, 1209, 1210, 1211] I I2 ∧ Fq L κ ow [1212] J J2 ∧ Rg 0 1 r ∧ ((r, MTf R I2 J2 x, NRf R I2 J2 x) = mReadFirst (0) (7) (MTf R I J x) (NRf R I J x)) ∧ (Pg_ x I I2 ∧ (¬ r = 0 → Ps_ x I I2)) ∧ (¬ r = 0 → ∀ a, R x 15 = some a → Rg 0 6 (I2 a 0))) := by
  refine CtI.of (by decide +kernel) (Nat.le_of_ble_eq_true rfl) ?_
  intro p e s m below meth c B K
  have C := B.1
  have hF : Fq L κ ow [1205, 1206, 1207, 1208, 1209, 1210, 1211] I I := fq_rf
  have hG : Fq L κ ow [1212] J J := fq_rf
  obtain ⟨b_1, hb_1, hb_1L, hb_1k, hb_1n, hb_1o⟩ := shp_a (W9 x hLx) hkx 15 14 72 rfl (by decide)
  obtain ⟨b_2, hb_2, hb_2L, hb_2k, hb_2n, hb_2o⟩ := shp_a (W9 x hLx) hkx 1 14 940 rfl (by decide)
  have emqx : ∀ I J, MTf R I J x = MTq I J x b_2 := fun I J => by simp only [MTf, rr_, Option.getD_some, hb_2]
  have wmqx : mqw_ L κ ow x b_2 := ⟨⟨hLx, hb_2L⟩, ⟨(ro_o hkx (by decide)), (ro_a hb_2k (by decide) hb_2o hkx rfl)⟩⟩
  obtain ⟨s_3, hs_3⟩ : ∃ z, MTq I J x b_2 = z := ⟨_, rfl⟩
  obtain ⟨b_4, hb_4, hb_4L, hb_4k, hb_4n, hb_4o⟩ := shp_a (W9 x hLx) hkx 20 15 13 rfl (by decide)
  have enqx : ∀ I J, NRf R I J x = NRq I J x b_1 b_4 := fun I J => by simp only [NRf, rr_, Option.getD_some, hb_1, hb_4]
  have wnqx : nqw_ L κ ow x b_1 b_4 := ⟨⟨hLx, hb_1L, hb_4L⟩, ⟨(ro_o hkx (by decide)), (ro_a hb_1k (by decide) hb_1o hkx rfl), (ro_a hb_4k (by decide) hb_4o hkx rfl)⟩⟩
  obtain ⟨s_5, hs_5⟩ : ∃ z, NRq I J x b_1 b_4 = z := ⟨_, rfl⟩
  refine g_lo (is := [0, 1, 2]) (lo2 := [(0, .ref x), (1, .int 0), (2, .int 7)]) rfl ?_
  refine g_aload_n C 0 dX12_readFirst_0 rfl rfl ?_
  refine g_getR C K hLx hkx f_12_16 hb_1 dX12_readFirst_1 ?_
  refine g_iload_n C 1 dX12_readFirst_4 rfl rfl ?_
  obtain ⟨x_6, hx_6, rx_6⟩ := ex_getw (I := I) (a := b_1) (j := 0) (lo := 0) (hi := 7) hU.1 hb_1L (ro_a hb_1k (by decide) hb_1o hkx rfl) (by decide)
  refine h_iald C K hb_1L hb_1k (v := x_6) (0) (by decide) (by decide) (by rw [hb_1n]; decide) hx_6 dX12_readFirst_5 ?_
  have f_7 : s_5.rd (0) = x_6 := (congrFun (congrArg NR_.rd hs_5) _).symm.trans hx_6
  refine g_iload_n C 2 dX12_readFirst_6 rfl rfl ?_
  refine g_icmp_ne C (tgt := 16) dX12_readFirst_7 (by decide) (fun h_8 => ?_) (fun h_8 => ?_)
  · skip
    have n_9 : ¬ x_6 = 7 := h_8
    have r_10 := ne_hi (hi := 6) n_9 rx_6 rc_7 rfl (by decide)
    refine g_aload_n C 0 dX12_readFirst_16 rfl rfl ?_
    refine g_callVV C K (c_X12_go W9 hLx hkx   hU) hLx hkx (by decide) rfl v_12_156 rfl ⟨rfl, rfl⟩ ⟨Nat.le_of_ble_eq_true rfl, Nat.le_of_ble_eq_true rfl⟩ (Nat.le_of_ble_eq_true rfl) ⟨Nat.le_of_ble_eq_true rfl, Nat.le_of_ble_eq_true rfl⟩ dX12_readFirst_17 rfl (st := []) (fun I_12 J_13 h_14 => ?_)
    obtain ⟨hUI_12, hFI_12, hGJ_13, fx_11, ex_11⟩ := h_14
    have hF_15 := fq_tr hF hFI_12 (by decide)
    have hG_16 := fq_tr hG hGJ_13 (by decide)
    obtain ⟨s_18, hs_18⟩ : ∃ z, MTq I_12 J_13 x b_2 = z := ⟨_, rfl⟩
    have c_17 : mGo (s_3) = s_18 := by have q := fx_11; simp only [emqx, hs_3, hs_18] at q; exact q.symm
    have hs_19 : NRq I_12 J_13 x b_1 b_4 = s_5 := (nq_fq wnqx hFI_12 hGJ_13 (by decide) (by decide)).trans hs_5
    refine g_iconst C (v := 1) dX12_readFirst_20 (by decide) ?_
    exact g_zret (ty := .boolean) (r := 1) B K rfl (rfl) ⟨hUI_12, hF_15, hG_16, rg_w rc_1 (by decide) (by decide), (by simp only [mReadFirst, (by decide : Int32.toNatClampNeg 0 = 0), (by decide : Int32.toNatClampNeg 1 = 1), emqx, hs_18, hs_3, enqx, hs_19, hs_5, hx_6, f_7, h_8, c_17, if_true, if_false, mqM_tp, mqM_size, mqM_limit, mqM_to, mqM_frm, mqM_kind, mqM_number, mqM_sign, mqM_word, MT_.w_tp, MT_.w_size, MT_.w_limit, MT_.w_to, MT_.w_frm, MT_.w_kind, MT_.w_number, MT_.w_sign, MT_.w_word, nqM_rd, nqM_rn, nqM_taped, nqM_mfault, nqM_mplace, nqM_told, nqM_hl, nqM_hd, NR_.w_rd, NR_.w_rn, NR_.w_taped, NR_.w_mfault, NR_.w_mplace, NR_.w_told, NR_.w_hl, NR_.w_hd]), ⟨(pg_s (ps_t2 pg_rf ex_11)), fun _ => (ps_t2 pg_rf ex_11)⟩, (fun _ => fun a ha => by rw [hb_1] at ha; cases ha; exact eq_rg (fq_ar hFI_12 hb_1L (ro_a hb_1k (by decide) hb_1o hkx rfl) (by decide) (by decide) hx_6) (r_10))⟩ dX12_readFirst_21
  · skip
    have r_20 := (⟨(eq_rg (h_8) rc_7).1, (rx_6).2⟩ : Rg 7 7 x_6)
    refine g_aload_n C 0 dX12_readFirst_10 rfl rfl ?_
    refine g_iconst C (v := 4) dX12_readFirst_11 (by decide) ?_
    refine g_callVI C K (c_X12_bad W9 hLx hkx 4 (rg_w rc_4 (by decide) (by decide)) hU) hLx hkx (by decide) rfl v_12_146 rfl ⟨rfl, rfl⟩ ⟨Nat.le_of_ble_eq_true rfl, Nat.le_of_ble_eq_true rfl⟩ (Nat.le_of_ble_eq_true rfl) ⟨Nat.le_of_ble_eq_true rfl, Nat.le_of_ble_eq_true rfl⟩ dX12_readFirst_12 rfl (st := []) (fun x_21 I_22 J_23 h_24 => ?_)
    obtain ⟨hUI_22, hFI_22, hGJ_23, rx_21, fx_21⟩ := h_24
    have hF_25 := fq_tr hF hFI_22 (by decide)
    have hG_26 := fq_tr hG hGJ_23 (by decide)
    obtain ⟨s_28, hs_28⟩ : ∃ z, MTq I_22 J_23 x b_2 = z := ⟨_, rfl⟩
    obtain ⟨s_29, hs_29⟩ : ∃ z, NRq I_22 J_23 x b_1 b_4 = z := ⟨_, rfl⟩
    have c_27 : mBad (4) (s_3) (s_5) = (x_21, s_28, s_29) := by have q := fx_21; simp only [emqx, enqx, hs_3, hs_5, hs_28, hs_29] at q; exact q.symm
    exact g_zret (ty := .boolean) (r := x_21) B K rfl (nar_z (rg_w rx_21 (by decide) (by decide))) ⟨hUI_22, hF_25, hG_26, rg_w rx_21 (by decide) (by decide), (by simp only [mReadFirst, (by decide : Int32.toNatClampNeg 0 = 0), (by decide : Int32.toNatClampNeg 1 = 1), emqx, hs_28, hs_3, enqx, hs_29, hs_5, hx_6, f_7, (eq_true h_8), c_27, if_true, if_false, mqM_tp, mqM_size, mqM_limit, mqM_to, mqM_frm, mqM_kind, mqM_number, mqM_sign, mqM_word, MT_.w_tp, MT_.w_size, MT_.w_limit, MT_.w_to, MT_.w_frm, MT_.w_kind, MT_.w_number, MT_.w_sign, MT_.w_word, nqM_rd, nqM_rn, nqM_taped, nqM_mfault, nqM_mplace, nqM_told, nqM_hl, nqM_hd, NR_.w_rd, NR_.w_rn, NR_.w_taped, NR_.w_mfault, NR_.w_mplace, NR_.w_told, NR_.w_hl, NR_.w_hd]), ⟨(pg_fq pg_rf hFI_22 hLx hkx (by decide) (by decide)), fun q => ne_no q rx_21 rc_0⟩, (fun q => ne_no q rx_21 rc_0)⟩ dX12_readFirst_15
set_option maxRecDepth 100000 in
set_option maxHeartbeats 8000000 in
theorem c_X12_readNumber_0_20 {l : Launch} {D : va_G} {cy : Nat → ClassId} {L : List Nat} {κ ln : Nat → Nat} {R : Nat → Nat → Option Nat} {I : Nat → Nat → Int32} {J : Nat → Nat → Int64} {ow : Nat → Nat × Nat} (W9 : ∀ a ∈ L, Shp L κ ln R ow a) {x : Nat} (hLx : x ∈ L) (hkx : κ x = 12) (hU : Iw L κ R ow I) : CtI l yX12_readNumber cX12_readNumber 3 (some .boolean) { frames := 2, cells := 0, slots := 0, locals := 45 } D cy L κ ln R I J [.ref x, .int 0, .int 20] (fun r I2 J2 => Iw L κ R ow I2 ∧ Fq L κ ow [1205, 1206, 1207, 1208, 1209, 1210, 1211, 1213] I I2 ∧ Fq L κ ow [1212] J J2 ∧ Rg 0 1 r ∧ ((r, MTf R I2 J2 x, NRf R I2 J2 x) = mReadNumber (0) (20) (MTf R I J x) (NRf R I J x)) ∧ (Pg_ x I I2 ∧ (¬ r = 0 → Ps_ x I I2)) ∧ (¬ r = 0 → Rg 0 20 (I2 x 13))) := by
  refine CtI.of (by decide +kernel) (Nat.le_of_ble_eq_true rfl) ?_
  intro p e s m below meth c B K
  have C := B.1
  have hF : Fq L κ ow [1205, 1206, 1207, 1208, 1209, 1210, 1211, 1213] I I := fq_rf
  have hG : Fq L κ ow [1212] J J := fq_rf
  obtain ⟨b_1, hb_1, hb_1L, hb_1k, hb_1n, hb_1o⟩ := shp_a (W9 x hLx) hkx 1 14 940 rfl (by decide)
  have emqx : ∀ I J, MTf R I J x = MTq I J x b_1 := fun I J => by simp only [MTf, rr_, Option.getD_some, hb_1]
  have wmqx : mqw_ L κ ow x b_1 := ⟨⟨hLx, hb_1L⟩, ⟨(ro_o hkx (by decide)), (ro_a hb_1k (by decide) hb_1o hkx rfl)⟩⟩
  obtain ⟨s_2, hs_2⟩ : ∃ z, MTq I J x b_1 = z := ⟨_, rfl⟩
  obtain ⟨b_3, hb_3, hb_3L, hb_3k, hb_3n, hb_3o⟩ := shp_a (W9 x hLx) hkx 15 14 72 rfl (by decide)
  obtain ⟨b_4, hb_4, hb_4L, hb_4k, hb_4n, hb_4o⟩ := shp_a (W9 x hLx) hkx 20 15 13 rfl (by decide)
  have enqx : ∀ I J, NRf R I J x = NRq I J x b_3 b_4 := fun I J => by simp only [NRf, rr_, Option.getD_some, hb_3, hb_4]
  have wnqx : nqw_ L κ ow x b_3 b_4 := ⟨⟨hLx, hb_3L, hb_4L⟩, ⟨(ro_o hkx (by decide)), (ro_a hb_3k (by decide) hb_3o hkx rfl), (ro_a hb_4k (by decide) hb_4o hkx rfl)⟩⟩
  obtain ⟨s_5, hs_5⟩ : ∃ z, NRq I J x b_3 b_4 = z := ⟨_, rfl⟩
  refine g_lo (is := [0, 1, 2]) (lo2 := [(0, .ref x), (1, .int 0), (2, .int 20)]) rfl ?_
  refine g_aload_n C 0 dX12_readNumber_0 rfl rfl ?_
  obtain ⟨x_6, hx_6, rx_6⟩ := ex_getw (I := I) (a := x) (j := 7) (lo := 0) (hi := 4) hU.1 hLx (ro_o hkx (by decide)) rfl
  have f_7 : s_2.kind = x_6 := (congrArg MT_.kind hs_2).symm.trans hx_6
  refine g_getI C K hLx hkx f_12_104 (v := x_6) hx_6 dX12_readNumber_1 ?_
  refine g_iconst C (v := 3) dX12_readNumber_4 (by decide) ?_
  refine g_icmp_eq C (tgt := 14) dX12_readNumber_5 (by decide) (fun h_8 => ?_) (fun h_8 => ?_)
  · skip
    have r_9 := (⟨(eq_rg (h_8) rc_3).1, (eq_rg (h_8) rc_3).2⟩ : Rg 3 3 x_6)
    refine g_aload_n C 0 dX12_readNumber_14 rfl rfl ?_
    obtain ⟨x_10, hx_10, rx_10⟩ := ex_getw (I := I) (a := x) (j := 8) (lo := (-2147483648)) (hi := 2147483647) hU.1 hLx (ro_o hkx (by decide)) rfl
    have f_11 : s_2.number = x_10 := (congrArg MT_.number hs_2).symm.trans hx_10
    refine g_getI C K hLx hkx f_12_121 (v := x_10) hx_10 dX12_readNumber_15 ?_
    refine g_iload_n C 1 dX12_readNumber_18 rfl rfl ?_
    refine g_iload_n C 2 dX12_readNumber_19 rfl rfl ?_
    refine g_callSI C K (c_X12_isIn W9 x_10 0 20 (rg_w rc_0 (by decide) (by decide)) (rg_w rc_20 (by decide) (by decide)) hU) s_12_149 rfl ⟨rfl, rfl⟩ ⟨Nat.le_of_ble_eq_true rfl, Nat.le_of_ble_eq_true rfl⟩ (Nat.le_of_ble_eq_true rfl) ⟨Nat.le_of_ble_eq_true rfl, Nat.le_of_ble_eq_true rfl⟩ dX12_readNumber_20 rfl (st := []) (fun x_12 I_13 J_14 h_15 => ?_)
    obtain ⟨rfl, rfl, rx_12, fx_12, ex_12⟩ := h_15
    have c_16 : isIn_ (x_10) (0) (20) = x_12 := fx_12.symm
    refine g_if_ne C (tgt := 32) dX12_readNumber_23 (by decide) (fun h_17 => ?_) (fun h_17 => ?_)
    · skip
      have n_18 : ¬ x_12 = 0 := h_17
      have r_19 := ne_lo (lo := 1) n_18 rx_12 rc_0 rfl (by decide)
      have r_20 := le_r (((ex_12.1) n_18)) rc_0 rx_10
      have r_21 := le_l (((ex_12.2) n_18)) r_20 rc_20
      refine g_aload_n C 0 dX12_readNumber_32 rfl rfl ?_
      refine g_aload_n C 0 dX12_readNumber_33 rfl rfl ?_
      refine g_getI C K hLx hkx f_12_121 (v := x_10) hx_10 dX12_readNumber_34 ?_
      refine h_putI C K hLx hkx f_12_153 p_12_13 dX12_readNumber_37 (fun I_22 hI_22 => ?_)
      have hU_23 := iw_put W9 hU hI_22 (ro_o hkx (by decide)) (lo := (-2147483648)) (hi := 2147483647) (rfl) (rg_all _) rfl
      have hF_24 := fq_puto hF hI_22 hkx (by decide) (by decide)
      have hs_25 : MTq I_22 J x b_1 = s_2 := by rw [hI_22]; exact (mq_uIt wmqx (by decide)).trans hs_2
      have hs_26 : NRq I_22 J x b_3 b_4 = (NR_.w_told s_5 (x_10)) := by rw [hI_22]; exact ((nq_told wnqx).trans (congrArg (fun z : NR_ => NR_.w_told z (x_10)) hs_5)).trans rfl
      refine g_aload_n C 0 dX12_readNumber_40 rfl rfl ?_
      refine g_callVV C K (c_X12_go W9 hLx hkx   hU_23) hLx hkx (by decide) rfl v_12_156 rfl ⟨rfl, rfl⟩ ⟨Nat.le_of_ble_eq_true rfl, Nat.le_of_ble_eq_true rfl⟩ (Nat.le_of_ble_eq_true rfl) ⟨Nat.le_of_ble_eq_true rfl, Nat.le_of_ble_eq_true rfl⟩ dX12_readNumber_41 rfl (st := []) (fun I_28 J_29 h_30 => ?_)
      obtain ⟨hUI_28, hFI_28, hGJ_29, fx_27, ex_27⟩ := h_30
      have hF_31 := fq_tr hF_24 hFI_28 (by decide)
      have hG_32 := fq_tr hG hGJ_29 (by decide)
      obtain ⟨s_34, hs_34⟩ : ∃ z, MTq I_28 J_29 x b_1 = z := ⟨_, rfl⟩
      have c_33 : mGo (s_2) = s_34 := by have q := fx_27; simp only [emqx, hs_25, hs_34] at q; exact q.symm
      have hs_35 : NRq I_28 J_29 x b_3 b_4 = (NR_.w_told s_5 (x_10)) := (nq_fq wnqx hFI_28 hGJ_29 (by decide) (by decide)).trans hs_26
      refine g_iconst C (v := 1) dX12_readNumber_44 (by decide) ?_
      exact g_zret (ty := .boolean) (r := 1) B K rfl (rfl) ⟨hUI_28, hF_31, hG_32, rg_w rc_1 (by decide) (by decide), (by simp only [mReadNumber, emqx, hs_34, hs_2, enqx, hs_35, hs_5, hx_6, f_7, (eq_true h_8), hx_10, f_11, c_16, h_17, c_33, if_true, if_false, mqM_tp, mqM_size, mqM_limit, mqM_to, mqM_frm, mqM_kind, mqM_number, mqM_sign, mqM_word, MT_.w_tp, MT_.w_size, MT_.w_limit, MT_.w_to, MT_.w_frm, MT_.w_kind, MT_.w_number, MT_.w_sign, MT_.w_word, nqM_rd, nqM_rn, nqM_taped, nqM_mfault, nqM_mplace, nqM_told, nqM_hl, nqM_hd, NR_.w_rd, NR_.w_rn, NR_.w_taped, NR_.w_mfault, NR_.w_mplace, NR_.w_told, NR_.w_hl, NR_.w_hd]), ⟨(pg_s (ps_t2 (pg_u pg_rf hI_22 (Or.inr (by decide)) (Or.inr (by decide))) ex_27)), fun _ => (ps_t2 (pg_u pg_rf hI_22 (Or.inr (by decide)) (Or.inr (by decide))) ex_27)⟩, (fun _ => eq_rg (fq_at hFI_28 hLx hkx (by decide) (by decide) (kp_s hI_22)) (r_21))⟩ dX12_readNumber_45
    · skip
      have r_36 := (⟨(rx_12).1, (eq_rg (h_17) rc_0).2⟩ : Rg 0 0 x_12)
      refine g_aload_n C 0 dX12_readNumber_26 rfl rfl ?_
      refine g_iconst C (v := 2) dX12_readNumber_27 (by decide) ?_
      refine g_callVI C K (c_X12_bad W9 hLx hkx 2 (rg_w rc_2 (by decide) (by decide)) hU) hLx hkx (by decide) rfl v_12_146 rfl ⟨rfl, rfl⟩ ⟨Nat.le_of_ble_eq_true rfl, Nat.le_of_ble_eq_true rfl⟩ (Nat.le_of_ble_eq_true rfl) ⟨Nat.le_of_ble_eq_true rfl, Nat.le_of_ble_eq_true rfl⟩ dX12_readNumber_28 rfl (st := []) (fun x_37 I_38 J_39 h_40 => ?_)
      obtain ⟨hUI_38, hFI_38, hGJ_39, rx_37, fx_37⟩ := h_40
      have hF_41 := fq_tr hF hFI_38 (by decide)
      have hG_42 := fq_tr hG hGJ_39 (by decide)
      obtain ⟨s_44, hs_44⟩ : ∃ z, MTq I_38 J_39 x b_1 = z := ⟨_, rfl⟩
      obtain ⟨s_45, hs_45⟩ : ∃ z, NRq I_38 J_39 x b_3 b_4 = z := ⟨_, rfl⟩
      have c_43 : mBad (2) (s_2) (s_5) = (x_37, s_44, s_45) := by have q := fx_37; simp only [emqx, enqx, hs_2, hs_5, hs_44, hs_45] at q; exact q.symm
      exact g_zret (ty := .boolean) (r := x_37) B K rfl (nar_z (rg_w rx_37 (by decide) (by decide))) ⟨hUI_38, hF_41, hG_42, rg_w rx_37 (by decide) (by decide), (by simp only [mReadNumber, emqx, hs_44, hs_2, enqx, hs_45, hs_5, hx_6, f_7, (eq_true h_8), hx_10, f_11, c_16, (eq_true h_17), c_43, if_true, if_false, mqM_tp, mqM_size, mqM_limit, mqM_to, mqM_frm, mqM_kind, mqM_number, mqM_sign, mqM_word, MT_.w_tp, MT_.w_size, MT_.w_limit, MT_.w_to, MT_.w_frm, MT_.w_kind, MT_.w_number, MT_.w_sign, MT_.w_word, nqM_rd, nqM_rn, nqM_taped, nqM_mfault, nqM_mplace, nqM_told, nqM_hl, nqM_hd, NR_.w_rd, NR_.w_rn, NR_.w_taped, NR_.w_mfault, NR_.w_mplace, NR_.w_told, NR_.w_hl, NR_.w_hd]), ⟨(pg_fq pg_rf hFI_38 hLx hkx (by decide) (by decide)), fun q => ne_no q rx_37 rc_0⟩, (fun q => ne_no q rx_37 rc_0)⟩ dX12_readNumber_31
  · skip
    have n_46 : ¬ x_6 = 3 := h_8
    refine g_aload_n C 0 dX12_readNumber_8 rfl rfl ?_
    refine g_iconst C (v := 1) dX12_readNumber_9 (by decide) ?_
    refine g_callVI C K (c_X12_bad W9 hLx hkx 1 (rg_w rc_1 (by decide) (by decide)) hU) hLx hkx (by decide) rfl v_12_146 rfl ⟨rfl, rfl⟩ ⟨Nat.le_of_ble_eq_true rfl, Nat.le_of_ble_eq_true rfl⟩ (Nat.le_of_ble_eq_true rfl) ⟨Nat.le_of_ble_eq_true rfl, Nat.le_of_ble_eq_true rfl⟩ dX12_readNumber_10 rfl (st := []) (fun x_47 I_48 J_49 h_50 => ?_)
    obtain ⟨hUI_48, hFI_48, hGJ_49, rx_47, fx_47⟩ := h_50
    have hF_51 := fq_tr hF hFI_48 (by decide)
    have hG_52 := fq_tr hG hGJ_49 (by decide)
    obtain ⟨s_54, hs_54⟩ : ∃ z, MTq I_48 J_49 x b_1 = z := ⟨_, rfl⟩
    obtain ⟨s_55, hs_55⟩ : ∃ z, NRq I_48 J_49 x b_3 b_4 = z := ⟨_, rfl⟩
    have c_53 : mBad (1) (s_2) (s_5) = (x_47, s_54, s_55) := by have q := fx_47; simp only [emqx, enqx, hs_2, hs_5, hs_54, hs_55] at q; exact q.symm
    exact g_zret (ty := .boolean) (r := x_47) B K rfl (nar_z (rg_w rx_47 (by decide) (by decide))) ⟨hUI_48, hF_51, hG_52, rg_w rx_47 (by decide) (by decide), (by simp only [mReadNumber, emqx, hs_54, hs_2, enqx, hs_55, hs_5, hx_6, f_7, h_8, c_53, if_true, if_false, mqM_tp, mqM_size, mqM_limit, mqM_to, mqM_frm, mqM_kind, mqM_number, mqM_sign, mqM_word, MT_.w_tp, MT_.w_size, MT_.w_limit, MT_.w_to, MT_.w_frm, MT_.w_kind, MT_.w_number, MT_.w_sign, MT_.w_word, nqM_rd, nqM_rn, nqM_taped, nqM_mfault, nqM_mplace, nqM_told, nqM_hl, nqM_hd, NR_.w_rd, NR_.w_rn, NR_.w_taped, NR_.w_mfault, NR_.w_mplace, NR_.w_told, NR_.w_hl, NR_.w_hd]), ⟨(pg_fq pg_rf hFI_48 hLx hkx (by decide) (by decide)), fun q => ne_no q rx_47 rc_0⟩, (fun q => ne_no q rx_47 rc_0)⟩ dX12_readNumber_13
set_option maxRecDepth 100000 in
set_option maxHeartbeats 8000000 in
theorem c_X12_isOne_0 {l : Launch} {D : va_G} {cy : Nat → ClassId} {L : List Nat} {κ ln : Nat → Nat} {R : Nat → Nat → Option Nat} {I : Nat → Nat → Int32} {J : Nat → Nat → Int64} {ow : Nat → Nat × Nat} (W9 : ∀ a ∈ L, Shp L κ ln R ow a) {x : Nat} (hLx : x ∈ L) (hkx : κ x = 12) (a1 : Int32) (ra1 : Rg 0 7 a1) (hU : Iw L κ R ow I) : CtI l yX12_isOne cX12_isOne 3 (some .boolean) { frames := 3, cells := 0, slots := 0, locals := 69 } D cy L κ ln R I J [.ref x, .int 0, .int a1] (fun r I2 J2 => Iw L κ R ow I2 ∧ Fq L κ ow [1210, 1211, 1213] I I2 ∧ Fq L κ ow [] J J2 ∧ Rg 0 1 r ∧ ((r, MTf R I2 J2 x, NRf R I2 J2 x) = mIsOne (0) a1 (MTf R I J x) (NRf R I J x)) ∧ (¬ r = 0 → Rg 0 6 (I2 x 13))) := by
  refine CtI.of (by decide +kernel) (Nat.le_of_ble_eq_true rfl) ?_
  intro p e s m below meth c B K
  have C := B.1
  have hF : Fq L κ ow [1210, 1211, 1213] I I := fq_rf
  have hG : Fq L κ ow [] J J := fq_rf
  obtain ⟨b_1, hb_1, hb_1L, hb_1k, hb_1n, hb_1o⟩ := shp_a (W9 x hLx) hkx 20 15 13 rfl (by decide)
  obtain ⟨b_2, hb_2, hb_2L, hb_2k, hb_2n, hb_2o⟩ := shp_a (W9 x hLx) hkx 1 14 940 rfl (by decide)
  have emqx : ∀ I J, MTf R I J x = MTq I J x b_2 := fun I J => by simp only [MTf, rr_, Option.getD_some, hb_2]
  have wmqx : mqw_ L κ ow x b_2 := ⟨⟨hLx, hb_2L⟩, ⟨(ro_o hkx (by decide)), (ro_a hb_2k (by decide) hb_2o hkx rfl)⟩⟩
  obtain ⟨s_3, hs_3⟩ : ∃ z, MTq I J x b_2 = z := ⟨_, rfl⟩
  obtain ⟨b_4, hb_4, hb_4L, hb_4k, hb_4n, hb_4o⟩ := shp_a (W9 x hLx) hkx 15 14 72 rfl (by decide)
  have enqx : ∀ I J, NRf R I J x = NRq I J x b_4 b_1 := fun I J => by simp only [NRf, rr_, Option.getD_some, hb_4, hb_1]
  have wnqx : nqw_ L κ ow x b_4 b_1 := ⟨⟨hLx, hb_4L, hb_1L⟩, ⟨(ro_o hkx (by decide)), (ro_a hb_4k (by decide) hb_4o hkx rfl), (ro_a hb_1k (by decide) hb_1o hkx rfl)⟩⟩
  obtain ⟨s_5, hs_5⟩ : ∃ z, NRq I J x b_4 b_1 = z := ⟨_, rfl⟩
  refine g_lo (is := [0, 1, 2]) (lo2 := [(0, .ref x), (1, .int 0), (2, .int a1)]) rfl ?_
  refine g_aload_n C 0 dX12_isOne_0 rfl rfl ?_
  refine g_callVI C K (c_X12_isName W9 hLx hkx   hU) hLx hkx (by decide) rfl v_12_166 rfl ⟨rfl, rfl⟩ ⟨Nat.le_of_ble_eq_true rfl, Nat.le_of_ble_eq_true rfl⟩ (Nat.le_of_ble_eq_true rfl) ⟨Nat.le_of_ble_eq_true rfl, Nat.le_of_ble_eq_true rfl⟩ dX12_isOne_1 rfl (st := []) (fun x_6 I_7 J_8 h_9 => ?_)
  obtain ⟨rfl, rfl, rx_6, fx_6⟩ := h_9
  have c_10 : mIsName (s_3) = x_6 := by have q := fx_6; simp only [emqx, hs_3] at q; exact q.symm
  refine g_if_ne C (tgt := 13) dX12_isOne_4 (by decide) (fun h_11 => ?_) (fun h_11 => ?_)
  · skip
    have n_12 : ¬ x_6 = 0 := h_11
    have r_13 := ne_lo (lo := 1) n_12 rx_6 rc_0 rfl (by decide)
    refine g_aload_n C 0 dX12_isOne_13 rfl rfl ?_
    refine g_aload_n C 0 dX12_isOne_14 rfl rfl ?_
    refine g_getR C K hLx hkx f_12_32 hb_1 dX12_isOne_15 ?_
    refine g_iload_n C 1 dX12_isOne_18 rfl rfl ?_
    refine g_iload_n C 2 dX12_isOne_19 rfl rfl ?_
    refine g_aload_n C 0 dX12_isOne_20 rfl rfl ?_
    obtain ⟨y_14, hy_14⟩ : ∃ z, J x 12 = z := ⟨_, rfl⟩
    have f_15 : s_3.word = y_14 := (congrArg MT_.word hs_3).symm.trans hy_14
    refine g_getJ C K hLx hkx f_12_117 (v := y_14) hy_14 dX12_isOne_21 ?_
    refine g_callSI C K (c_X12_findIn_0 W9 hb_1L hb_1k hb_1n a1 y_14 (ra1) hU) s_12_170 rfl ⟨rfl, rfl⟩ ⟨Nat.le_of_ble_eq_true rfl, Nat.le_of_ble_eq_true rfl⟩ (Nat.le_of_ble_eq_true rfl) ⟨Nat.le_of_ble_eq_true rfl, Nat.le_of_ble_eq_true rfl⟩ dX12_isOne_24 rfl (st := [.ref x]) (fun x_16 I_17 J_18 h_19 => ?_)
    obtain ⟨rfl, rfl, rx_16, fx_16, ex_16⟩ := h_19
    have c_20 : mfnd s_5.rn (0) (a1) y_14 0 = x_16 := by have q := fx_16; rw [show J b_1 = s_5.rn from congrArg NR_.rn hs_5] at q; exact q.symm
    refine h_putI C K hLx hkx f_12_153 p_12_13 dX12_isOne_27 (fun I_21 hI_21 => ?_)
    have hU_22 := iw_put W9 hU hI_21 (ro_o hkx (by decide)) (lo := (-2147483648)) (hi := 2147483647) (rfl) (rg_all _) rfl
    have hF_23 := fq_puto hF hI_21 hkx (by decide) (by decide)
    have hs_24 : MTq I_21 J x b_2 = s_3 := by rw [hI_21]; exact (mq_uIt wmqx (by decide)).trans hs_3
    have hs_25 : NRq I_21 J x b_4 b_1 = (NR_.w_told s_5 (x_16)) := by rw [hI_21]; exact ((nq_told wnqx).trans (congrArg (fun z : NR_ => NR_.w_told z (x_16)) hs_5)).trans rfl
    refine g_aload_n C 0 dX12_isOne_30 rfl rfl ?_
    refine g_getI C K hLx hkx f_12_153 (v := x_16) (kp_s hI_21) dX12_isOne_31 ?_
    refine g_iconst C (v := (-1)) dX12_isOne_34 (by decide) ?_
    refine g_icmp_ne C (tgt := 46) dX12_isOne_35 (by decide) (fun h_26 => ?_) (fun h_26 => ?_)
    · skip
      have n_27 : ¬ x_16 = (-1) := h_26
      have r_28 := ne_lo (lo := 0) n_27 rx_16 rc_m1 rfl (by decide)
      refine g_iconst C (v := 1) dX12_isOne_46 (by decide) ?_
      refine g_goto C (tgt := 51) dX12_isOne_47 (by decide) ?_
      exact g_zret (ty := .boolean) (r := 1) B K rfl (rfl) ⟨hU_22, hF_23, hG, rg_w rc_1 (by decide) (by decide), (by simp only [mIsOne, emqx, hs_24, hs_3, enqx, hs_25, hs_5, c_10, h_11, hy_14, f_15, c_20, h_26, if_true, if_false, mqM_tp, mqM_size, mqM_limit, mqM_to, mqM_frm, mqM_kind, mqM_number, mqM_sign, mqM_word, MT_.w_tp, MT_.w_size, MT_.w_limit, MT_.w_to, MT_.w_frm, MT_.w_kind, MT_.w_number, MT_.w_sign, MT_.w_word, nqM_rd, nqM_rn, nqM_taped, nqM_mfault, nqM_mplace, nqM_told, nqM_hl, nqM_hd, NR_.w_rd, NR_.w_rn, NR_.w_taped, NR_.w_mfault, NR_.w_mplace, NR_.w_told, NR_.w_hl, NR_.w_hd]), (fun _ => eq_rg (kp_s hI_21) (r_28))⟩ dX12_isOne_51
    · skip
      have r_29 := (⟨(rx_16).1, (eq_rg (h_26) rc_m1).2⟩ : Rg (-1) (-1) x_16)
      refine g_aload_n C 0 dX12_isOne_38 rfl rfl ?_
      refine g_iconst C (v := 3) dX12_isOne_39 (by decide) ?_
      refine g_callVI C K (c_X12_bad W9 hLx hkx 3 (rg_w rc_3 (by decide) (by decide)) hU_22) hLx hkx (by decide) rfl v_12_146 rfl ⟨rfl, rfl⟩ ⟨Nat.le_of_ble_eq_true rfl, Nat.le_of_ble_eq_true rfl⟩ (Nat.le_of_ble_eq_true rfl) ⟨Nat.le_of_ble_eq_true rfl, Nat.le_of_ble_eq_true rfl⟩ dX12_isOne_40 rfl (st := []) (fun x_30 I_31 J_32 h_33 => ?_)
      obtain ⟨hUI_31, hFI_31, hGJ_32, rx_30, fx_30⟩ := h_33
      have hF_34 := fq_tr hF_23 hFI_31 (by decide)
      have hG_35 := fq_tr hG hGJ_32 (by decide)
      obtain ⟨s_37, hs_37⟩ : ∃ z, MTq I_31 J_32 x b_2 = z := ⟨_, rfl⟩
      obtain ⟨s_38, hs_38⟩ : ∃ z, NRq I_31 J_32 x b_4 b_1 = z := ⟨_, rfl⟩
      have c_36 : mBad (3) (s_3) ((NR_.w_told s_5 (x_16))) = (x_30, s_37, s_38) := by have q := fx_30; simp only [emqx, enqx, hs_24, hs_25, hs_37, hs_38] at q; exact q.symm
      refine g_if_eq C (tgt := 50) dX12_isOne_43 (by decide) (fun h_39 => ?_) (fun h_39 => ?_)
      · skip
        refine g_iconst C (v := 0) dX12_isOne_50 (by decide) ?_
        exact g_zret (ty := .boolean) (r := 0) B K rfl (rfl) ⟨hUI_31, hF_34, hG_35, rg_w rc_0 (by decide) (by decide), (by (try simp only [c_10, h_11, hy_14, f_15, c_20, (eq_true h_26), (eq_true h_39), if_true, if_false, mqM_tp, mqM_size, mqM_limit, mqM_to, mqM_frm, mqM_kind, mqM_number, mqM_sign, mqM_word, MT_.w_tp, MT_.w_size, MT_.w_limit, MT_.w_to, MT_.w_frm, MT_.w_kind, MT_.w_number, MT_.w_sign, MT_.w_word, nqM_rd, nqM_rn, nqM_taped, nqM_mfault, nqM_mplace, nqM_told, nqM_hl, nqM_hd, NR_.w_rd, NR_.w_rn, NR_.w_taped, NR_.w_mfault, NR_.w_mplace, NR_.w_told, NR_.w_hl, NR_.w_hd] at c_36); simp only [mIsOne, emqx, hs_37, hs_3, enqx, hs_38, hs_5, c_10, h_11, hy_14, f_15, c_20, (eq_true h_26), c_36, (eq_true h_39), if_true, if_false, mqM_tp, mqM_size, mqM_limit, mqM_to, mqM_frm, mqM_kind, mqM_number, mqM_sign, mqM_word, MT_.w_tp, MT_.w_size, MT_.w_limit, MT_.w_to, MT_.w_frm, MT_.w_kind, MT_.w_number, MT_.w_sign, MT_.w_word, nqM_rd, nqM_rn, nqM_taped, nqM_mfault, nqM_mplace, nqM_told, nqM_hl, nqM_hd, NR_.w_rd, NR_.w_rn, NR_.w_taped, NR_.w_mfault, NR_.w_mplace, NR_.w_told, NR_.w_hl, NR_.w_hd]), (fun q => absurd rfl q)⟩ dX12_isOne_51
      · skip
        exact ne_no (h_39) rx_30 rc_0
  · skip
    have r_40 := (⟨(rx_6).1, (eq_rg (h_11) rc_0).2⟩ : Rg 0 0 x_6)
    refine g_aload_n C 0 dX12_isOne_7 rfl rfl ?_
    refine g_iconst C (v := 1) dX12_isOne_8 (by decide) ?_
    refine g_callVI C K (c_X12_bad W9 hLx hkx 1 (rg_w rc_1 (by decide) (by decide)) hU) hLx hkx (by decide) rfl v_12_146 rfl ⟨rfl, rfl⟩ ⟨Nat.le_of_ble_eq_true rfl, Nat.le_of_ble_eq_true rfl⟩ (Nat.le_of_ble_eq_true rfl) ⟨Nat.le_of_ble_eq_true rfl, Nat.le_of_ble_eq_true rfl⟩ dX12_isOne_9 rfl (st := []) (fun x_41 I_42 J_43 h_44 => ?_)
    obtain ⟨hUI_42, hFI_42, hGJ_43, rx_41, fx_41⟩ := h_44
    have hF_45 := fq_tr hF hFI_42 (by decide)
    have hG_46 := fq_tr hG hGJ_43 (by decide)
    obtain ⟨s_48, hs_48⟩ : ∃ z, MTq I_42 J_43 x b_2 = z := ⟨_, rfl⟩
    obtain ⟨s_49, hs_49⟩ : ∃ z, NRq I_42 J_43 x b_4 b_1 = z := ⟨_, rfl⟩
    have c_47 : mBad (1) (s_3) (s_5) = (x_41, s_48, s_49) := by have q := fx_41; simp only [emqx, enqx, hs_3, hs_5, hs_48, hs_49] at q; exact q.symm
    exact g_zret (ty := .boolean) (r := x_41) B K rfl (nar_z (rg_w rx_41 (by decide) (by decide))) ⟨hUI_42, hF_45, hG_46, rg_w rx_41 (by decide) (by decide), (by simp only [mIsOne, emqx, hs_48, hs_3, enqx, hs_49, hs_5, c_10, (eq_true h_11), c_47, if_true, if_false, mqM_tp, mqM_size, mqM_limit, mqM_to, mqM_frm, mqM_kind, mqM_number, mqM_sign, mqM_word, MT_.w_tp, MT_.w_size, MT_.w_limit, MT_.w_to, MT_.w_frm, MT_.w_kind, MT_.w_number, MT_.w_sign, MT_.w_word, nqM_rd, nqM_rn, nqM_taped, nqM_mfault, nqM_mplace, nqM_told, nqM_hl, nqM_hd, NR_.w_rd, NR_.w_rn, NR_.w_taped, NR_.w_mfault, NR_.w_mplace, NR_.w_told, NR_.w_hl, NR_.w_hd]), (fun q => ne_no q rx_41 rc_0)⟩ dX12_isOne_12
set_option maxRecDepth 100000 in
set_option maxHeartbeats 8000000 in
theorem c_X12_readOne_0 {l : Launch} {D : va_G} {cy : Nat → ClassId} {L : List Nat} {κ ln : Nat → Nat} {R : Nat → Nat → Option Nat} {I : Nat → Nat → Int32} {J : Nat → Nat → Int64} {ow : Nat → Nat × Nat} (W9 : ∀ a ∈ L, Shp L κ ln R ow a) {x : Nat} (hLx : x ∈ L) (hkx : κ x = 12) (a1 : Int32) (ra1 : Rg 0 7 a1) (hU : Iw L κ R ow I) : CtI l yX12_readOne cX12_readOne 3 (some .boolean) { frames := 4, cells := 0, slots := 0, locals := 91 } D cy L κ ln R I J [.ref x, .int 0, .int a1] (fun r I2 J2 => Iw L κ R ow I2 ∧ Fq L κ ow [1205, 1206, 1207, 1208, 1209, 1210, 1211, 1213] I I2 ∧ Fq L κ ow [1212] J J2 ∧ Rg 0 1 r ∧ ((r, MTf R I2 J2 x, NRf R I2 J2 x) = mReadOne (0) a1 (MTf R I J x) (NRf R I J x)) ∧ (Pg_ x I I2 ∧ (¬ r = 0 → Ps_ x I I2)) ∧ (¬ r = 0 → Rg 0 6 (I2 x 13))) := by
  refine CtI.of (by decide +kernel) (Nat.le_of_ble_eq_true rfl) ?_
  intro p e s m below meth c B K
  have C := B.1
  have hF : Fq L κ ow [1205, 1206, 1207, 1208, 1209, 1210, 1211, 1213] I I := fq_rf
  have hG : Fq L κ ow [1212] J J := fq_rf
  obtain ⟨b_1, hb_1, hb_1L, hb_1k, hb_1n, hb_1o⟩ := shp_a (W9 x hLx) hkx 1 14 940 rfl (by decide)
  have emqx : ∀ I J, MTf R I J x = MTq I J x b_1 := fun I J => by simp only [MTf, rr_, Option.getD_some, hb_1]
  have wmqx : mqw_ L κ ow x b_1 := ⟨⟨hLx, hb_1L⟩, ⟨(ro_o hkx (by decide)), (ro_a hb_1k (by decide) hb_1o hkx rfl)⟩⟩
  obtain ⟨s_2, hs_2⟩ : ∃ z, MTq I J x b_1 = z := ⟨_, rfl⟩
  obtain ⟨b_3, hb_3, hb_3L, hb_3k, hb_3n, hb_3o⟩ := shp_a (W9 x hLx) hkx 15 14 72 rfl (by decide)
  obtain ⟨b_4, hb_4, hb_4L, hb_4k, hb_4n, hb_4o⟩ := shp_a (W9 x hLx) hkx 20 15 13 rfl (by decide)
  have enqx : ∀ I J, NRf R I J x = NRq I J x b_3 b_4 := fun I J => by simp only [NRf, rr_, Option.getD_some, hb_3, hb_4]
  have wnqx : nqw_ L κ ow x b_3 b_4 := ⟨⟨hLx, hb_3L, hb_4L⟩, ⟨(ro_o hkx (by decide)), (ro_a hb_3k (by decide) hb_3o hkx rfl), (ro_a hb_4k (by decide) hb_4o hkx rfl)⟩⟩
  obtain ⟨s_5, hs_5⟩ : ∃ z, NRq I J x b_3 b_4 = z := ⟨_, rfl⟩
  refine g_lo (is := [0, 1, 2]) (lo2 := [(0, .ref x), (1, .int 0), (2, .int a1)]) rfl ?_
  refine g_aload_n C 0 dX12_readOne_0 rfl rfl ?_
  refine g_iload_n C 1 dX12_readOne_1 rfl rfl ?_
  refine g_iload_n C 2 dX12_readOne_2 rfl rfl ?_
  obtain ⟨x_6, hx_6, rx_6⟩ := ex_getw (I := I) (a := x) (j := 13) (lo := (-2147483648)) (hi := 2147483647) hU.1 hLx (ro_o hkx (by decide)) rfl
  have f_7 : s_5.told = x_6 := (congrArg NR_.told hs_5).symm.trans hx_6
  refine g_callVI C K (c_X12_isOne_0 W9 hLx hkx a1 (ra1) hU) hLx hkx (by decide) rfl v_12_174 rfl ⟨rfl, rfl⟩ ⟨Nat.le_of_ble_eq_true rfl, Nat.le_of_ble_eq_true rfl⟩ (Nat.le_of_ble_eq_true rfl) ⟨Nat.le_of_ble_eq_true rfl, Nat.le_of_ble_eq_true rfl⟩ dX12_readOne_3 rfl (st := []) (fun x_8 I_9 J_10 h_11 => ?_)
  obtain ⟨hUI_9, hFI_9, hGJ_10, rx_8, fx_8, ex_8⟩ := h_11
  have hF_12 := fq_tr hF hFI_9 (by decide)
  have hG_13 := fq_tr hG hGJ_10 (by decide)
  obtain ⟨s_15, hs_15⟩ : ∃ z, MTq I_9 J_10 x b_1 = z := ⟨_, rfl⟩
  obtain ⟨s_16, hs_16⟩ : ∃ z, NRq I_9 J_10 x b_3 b_4 = z := ⟨_, rfl⟩
  have c_14 : mIsOne (0) (a1) (s_2) (s_5) = (x_8, s_15, s_16) := by have q := fx_8; simp only [emqx, enqx, hs_2, hs_5, hs_15, hs_16] at q; exact q.symm
  obtain ⟨x_17, hx_17, rx_17⟩ := ex_getw (I := I_9) (a := x) (j := 13) (lo := (-2147483648)) (hi := 2147483647) hUI_9.1 hLx (ro_o hkx (by decide)) rfl
  have f_18 : s_16.told = x_17 := (congrArg NR_.told hs_16).symm.trans hx_17
  have q_19 := hx_17
  refine g_if_ne C (tgt := 11) dX12_readOne_6 (by decide) (fun h_20 => ?_) (fun h_20 => ?_)
  · skip
    have n_21 : ¬ x_8 = 0 := h_20
    have r_22 := ne_lo (lo := 1) n_21 rx_8 rc_0 rfl (by decide)
    have r_23 := rg_i rx_17 (eq_rg q_19.symm ((ex_8) n_21)) (lo := 0) (hi := 6) (by decide) (by decide)
    refine g_aload_n C 0 dX12_readOne_11 rfl rfl ?_
    refine g_callVV C K (c_X12_go W9 hLx hkx   hUI_9) hLx hkx (by decide) rfl v_12_156 rfl ⟨rfl, rfl⟩ ⟨Nat.le_of_ble_eq_true rfl, Nat.le_of_ble_eq_true rfl⟩ (Nat.le_of_ble_eq_true rfl) ⟨Nat.le_of_ble_eq_true rfl, Nat.le_of_ble_eq_true rfl⟩ dX12_readOne_12 rfl (st := []) (fun I_25 J_26 h_27 => ?_)
    obtain ⟨hUI_25, hFI_25, hGJ_26, fx_24, ex_24⟩ := h_27
    have hF_28 := fq_tr hF_12 hFI_25 (by decide)
    have hG_29 := fq_tr hG_13 hGJ_26 (by decide)
    obtain ⟨s_31, hs_31⟩ : ∃ z, MTq I_25 J_26 x b_1 = z := ⟨_, rfl⟩
    have c_30 : mGo (s_15) = s_31 := by have q := fx_24; simp only [emqx, hs_15, hs_31] at q; exact q.symm
    have hs_32 : NRq I_25 J_26 x b_3 b_4 = s_16 := (nq_fq wnqx hFI_25 hGJ_26 (by decide) (by decide)).trans hs_16
    refine g_iconst C (v := 1) dX12_readOne_15 (by decide) ?_
    exact g_zret (ty := .boolean) (r := 1) B K rfl (rfl) ⟨hUI_25, hF_28, hG_29, rg_w rc_1 (by decide) (by decide), (by simp only [mReadOne, emqx, hs_31, hs_2, enqx, hs_32, hs_5, hx_6, f_7, c_14, hx_17, f_18, h_20, c_30, if_true, if_false, mqM_tp, mqM_size, mqM_limit, mqM_to, mqM_frm, mqM_kind, mqM_number, mqM_sign, mqM_word, MT_.w_tp, MT_.w_size, MT_.w_limit, MT_.w_to, MT_.w_frm, MT_.w_kind, MT_.w_number, MT_.w_sign, MT_.w_word, nqM_rd, nqM_rn, nqM_taped, nqM_mfault, nqM_mplace, nqM_told, nqM_hl, nqM_hd, NR_.w_rd, NR_.w_rn, NR_.w_taped, NR_.w_mfault, NR_.w_mplace, NR_.w_told, NR_.w_hl, NR_.w_hd]), ⟨(pg_s (ps_t2 (pg_fq pg_rf hFI_9 hLx hkx (by decide) (by decide)) ex_24)), fun _ => (ps_t2 (pg_fq pg_rf hFI_9 hLx hkx (by decide) (by decide)) ex_24)⟩, (fun _ => eq_rg (fq_at hFI_25 hLx hkx (by decide) (by decide) hx_17) (r_23))⟩ dX12_readOne_16
  · skip
    have r_33 := (⟨(rx_8).1, (eq_rg (h_20) rc_0).2⟩ : Rg 0 0 x_8)
    refine g_iconst C (v := 0) dX12_readOne_9 (by decide) ?_
    exact g_zret (ty := .boolean) (r := 0) B K rfl (rfl) ⟨hUI_9, hF_12, hG_13, rg_w rc_0 (by decide) (by decide), (by simp only [mReadOne, emqx, hs_15, hs_2, enqx, hs_16, hs_5, hx_6, f_7, c_14, hx_17, f_18, (eq_true h_20), if_true, if_false, mqM_tp, mqM_size, mqM_limit, mqM_to, mqM_frm, mqM_kind, mqM_number, mqM_sign, mqM_word, MT_.w_tp, MT_.w_size, MT_.w_limit, MT_.w_to, MT_.w_frm, MT_.w_kind, MT_.w_number, MT_.w_sign, MT_.w_word, nqM_rd, nqM_rn, nqM_taped, nqM_mfault, nqM_mplace, nqM_told, nqM_hl, nqM_hd, NR_.w_rd, NR_.w_rn, NR_.w_taped, NR_.w_mfault, NR_.w_mplace, NR_.w_told, NR_.w_hl, NR_.w_hd]), ⟨(pg_fq pg_rf hFI_9 hLx hkx (by decide) (by decide)), fun q => absurd rfl q⟩, (fun q => absurd rfl q)⟩ dX12_readOne_10
set_option maxRecDepth 100000 in
set_option maxHeartbeats 8000000 in
theorem c_X12_readPerson {l : Launch} {D : va_G} {cy : Nat → ClassId} {L : List Nat} {κ ln : Nat → Nat} {R : Nat → Nat → Option Nat} {I : Nat → Nat → Int32} {J : Nat → Nat → Int64} {ow : Nat → Nat × Nat} (W9 : ∀ a ∈ L, Shp L κ ln R ow a) {x : Nat} (hLx : x ∈ L) (hkx : κ x = 12) (hU : Iw L κ R ow I) : CtI l yX12_readPerson cX12_readPerson 2 (some .boolean) { frames := 5, cells := 0, slots := 0, locals := 113 } D cy L κ ln R I J [.ref x] (fun r I2 J2 => Iw L κ R ow I2 ∧ Fq L κ ow [1205, 1206, 1207, 1208, 1209, 1210, 1211, 1213, 83500] I I2 ∧ Fq L κ ow [1212, 84000] J J2 ∧ Rg 0 1 r ∧ ((r, MTf R I2 J2 x, NRf R I2 J2 x) = mReadPerson (MTf R I J x) (NRf R I J x)) ∧ (Pg_ x I I2 ∧ (¬ r = 0 → Ps_ x I I2))) := by
  refine CtI.of (by decide +kernel) (Nat.le_of_ble_eq_true rfl) ?_
  intro p e s m below meth c B K
  have C := B.1
  have hF : Fq L κ ow [1205, 1206, 1207, 1208, 1209, 1210, 1211, 1213, 83500] I I := fq_rf
  have hG : Fq L κ ow [1212, 84000] J J := fq_rf
  obtain ⟨b_1, hb_1, hb_1L, hb_1k, hb_1n, hb_1o⟩ := shp_a (W9 x hLx) hkx 15 14 72 rfl (by decide)
  obtain ⟨b_2, hb_2, hb_2L, hb_2k, hb_2n, hb_2o⟩ := shp_a (W9 x hLx) hkx 1 14 940 rfl (by decide)
  have emqx : ∀ I J, MTf R I J x = MTq I J x b_2 := fun I J => by simp only [MTf, rr_, Option.getD_some, hb_2]
  have wmqx : mqw_ L κ ow x b_2 := ⟨⟨hLx, hb_2L⟩, ⟨(ro_o hkx (by decide)), (ro_a hb_2k (by decide) hb_2o hkx rfl)⟩⟩
  obtain ⟨s_3, hs_3⟩ : ∃ z, MTq I J x b_2 = z := ⟨_, rfl⟩
  obtain ⟨b_4, hb_4, hb_4L, hb_4k, hb_4n, hb_4o⟩ := shp_a (W9 x hLx) hkx 20 15 13 rfl (by decide)
  have enqx : ∀ I J, NRf R I J x = NRq I J x b_1 b_4 := fun I J => by simp only [NRf, rr_, Option.getD_some, hb_1, hb_4]
  have wnqx : nqw_ L κ ow x b_1 b_4 := ⟨⟨hLx, hb_1L, hb_4L⟩, ⟨(ro_o hkx (by decide)), (ro_a hb_1k (by decide) hb_1o hkx rfl), (ro_a hb_4k (by decide) hb_4o hkx rfl)⟩⟩
  obtain ⟨s_5, hs_5⟩ : ∃ z, NRq I J x b_1 b_4 = z := ⟨_, rfl⟩
  refine g_lo (is := [0]) (lo2 := [(0, .ref x)]) rfl ?_
  refine g_aload_n C 0 dX12_readPerson_0 rfl rfl ?_
  refine g_iconst C (v := 0) dX12_readPerson_1 (by decide) ?_
  refine g_bipush C (v := 7) dX12_readPerson_2 (by decide) ?_
  refine g_callVI C K (c_X12_readFirst_0_7 W9 hLx hkx   hU) hLx hkx (by decide) rfl v_12_178 rfl ⟨rfl, rfl⟩ ⟨Nat.le_of_ble_eq_true rfl, Nat.le_of_ble_eq_true rfl⟩ (Nat.le_of_ble_eq_true rfl) ⟨Nat.le_of_ble_eq_true rfl, Nat.le_of_ble_eq_true rfl⟩ dX12_readPerson_4 rfl (st := []) (fun x_6 I_7 J_8 h_9 => ?_)
  obtain ⟨hUI_7, hFI_7, hGJ_8, rx_6, fx_6, ex_6⟩ := h_9
  have hF_10 := fq_tr hF hFI_7 (by decide)
  have hG_11 := fq_tr hG hGJ_8 (by decide)
  obtain ⟨s_13, hs_13⟩ : ∃ z, MTq I_7 J_8 x b_2 = z := ⟨_, rfl⟩
  obtain ⟨s_14, hs_14⟩ : ∃ z, NRq I_7 J_8 x b_1 b_4 = z := ⟨_, rfl⟩
  have c_12 : mReadFirst (0) (7) (s_3) (s_5) = (x_6, s_13, s_14) := by have q := fx_6; simp only [emqx, enqx, hs_3, hs_5, hs_13, hs_14] at q; exact q.symm
  obtain ⟨x_15, hx_15, rx_15⟩ := ex_any (z0 := I_7 b_1 0)
  have q_16 := hx_15
  refine g_if_ne C (tgt := 12) dX12_readPerson_7 (by decide) (fun h_17 => ?_) (fun h_17 => ?_)
  · skip
    have n_18 : ¬ x_6 = 0 := h_17
    have r_19 := ne_lo (lo := 1) n_18 rx_6 rc_0 rfl (by decide)
    have r_20 := rg_i rx_15 (eq_rg q_16.symm ((ex_6.2) n_18 _ hb_1)) (lo := 0) (hi := 6) (by decide) (by decide)
    refine g_aload_n C 0 dX12_readPerson_12 rfl rfl ?_
    refine g_getR C K hLx hkx f_12_16 hb_1 dX12_readPerson_13 ?_
    refine g_iconst C (v := 0) dX12_readPerson_16 (by decide) ?_
    refine h_iald C K hb_1L hb_1k (v := x_15) (0) (by decide) (by decide) (by rw [hb_1n]; decide) hx_15 dX12_readPerson_17 ?_
    have f_22 : s_14.rd (0) = x_15 := (congrFun (congrArg NR_.rd hs_14) _).symm.trans hx_15
    refine g_istore_n C dX12_readPerson_18 rfl (by decide) (lo2 := [(1, .int x_15), (0, .ref x)]) rfl ?_
    refine g_aload_n C 1 dX12_readPerson_19 rfl rfl ?_
    refine g_iload_n C 0 dX12_readPerson_20 rfl rfl ?_
    refine g_callVI C K (c_X12_readNew W9 hLx hkx x_15 (rg_w r_20 (by decide) (by decide)) hUI_7) hLx hkx (by decide) rfl v_12_181 rfl ⟨rfl, rfl⟩ ⟨Nat.le_of_ble_eq_true rfl, Nat.le_of_ble_eq_true rfl⟩ (Nat.le_of_ble_eq_true rfl) ⟨Nat.le_of_ble_eq_true rfl, Nat.le_of_ble_eq_true rfl⟩ dX12_readPerson_21 rfl (st := []) (fun x_23 I_24 J_25 h_26 => ?_)
    obtain ⟨hUI_24, hFI_24, hGJ_25, rx_23, fx_23, ex_23⟩ := h_26
    have hF_27 := fq_tr hF_10 hFI_24 (by decide)
    have hG_28 := fq_tr hG_11 hGJ_25 (by decide)
    obtain ⟨s_30, hs_30⟩ : ∃ z, MTq I_24 J_25 x b_2 = z := ⟨_, rfl⟩
    obtain ⟨s_31, hs_31⟩ : ∃ z, NRq I_24 J_25 x b_1 b_4 = z := ⟨_, rfl⟩
    have c_29 : mReadNew (x_15) (s_13) (s_14) = (x_23, s_30, s_31) := by have q := fx_23; simp only [emqx, enqx, hs_13, hs_14, hs_30, hs_31] at q; exact q.symm
    refine g_if_eq C (tgt := 44) dX12_readPerson_24 (by decide) (fun h_32 => ?_) (fun h_32 => ?_)
    · skip
      have r_33 := (⟨(rx_23).1, (eq_rg (h_32) rc_0).2⟩ : Rg 0 0 x_23)
      refine g_iconst C (v := 0) dX12_readPerson_44 (by decide) ?_
      exact g_zret (ty := .boolean) (r := 0) B K rfl (rfl) ⟨hUI_24, hF_27, hG_28, rg_w rc_0 (by decide) (by decide), (by simp only [mReadPerson, mReadPerson2, mInc, emqx, hs_30, hs_3, enqx, hs_31, hs_5, c_12, hx_15, h_17, f_22, c_29, (eq_true h_32), if_true, if_false, mqM_tp, mqM_size, mqM_limit, mqM_to, mqM_frm, mqM_kind, mqM_number, mqM_sign, mqM_word, MT_.w_tp, MT_.w_size, MT_.w_limit, MT_.w_to, MT_.w_frm, MT_.w_kind, MT_.w_number, MT_.w_sign, MT_.w_word, nqM_rd, nqM_rn, nqM_taped, nqM_mfault, nqM_mplace, nqM_told, nqM_hl, nqM_hd, NR_.w_rd, NR_.w_rn, NR_.w_taped, NR_.w_mfault, NR_.w_mplace, NR_.w_told, NR_.w_hl, NR_.w_hd]), ⟨(pg_t (pg_t pg_rf ex_6.1.1) ex_23.1), fun q => absurd rfl q⟩⟩ dX12_readPerson_45
    · skip
      have n_34 : ¬ x_23 = 0 := h_32
      have r_35 := ne_lo (lo := 1) n_34 rx_23 rc_0 rfl (by decide)
      refine g_aload_n C 1 dX12_readPerson_27 rfl rfl ?_
      refine g_iconst C (v := 4) dX12_readPerson_28 (by decide) ?_
      refine g_iload_n C 0 dX12_readPerson_29 rfl rfl ?_
      obtain ⟨x_36, hx_36, rx_36, tx_36⟩ := ex_add 4 10 rc_4 r_20 (by decide) (by decide) (by decide) (by decide)
      refine g_iadd C (v := x_36) dX12_readPerson_30 hx_36 ?_
      refine g_aload_n C 1 dX12_readPerson_31 rfl rfl ?_
      refine g_iconst C (v := 0) dX12_readPerson_32 (by decide) ?_
      refine g_bipush C (v := 20) dX12_readPerson_33 (by decide) ?_
      obtain ⟨x_37, hx_37, rx_37⟩ := ex_getw (I := I_24) (a := x) (j := 13) (lo := (-2147483648)) (hi := 2147483647) hUI_24.1 hLx (ro_o hkx (by decide)) rfl
      have f_38 : s_31.told = x_37 := (congrArg NR_.told hs_31).symm.trans hx_37
      refine g_callVI C K (c_X12_readNumber_0_20 W9 hLx hkx   hUI_24) hLx hkx (by decide) rfl v_12_184 rfl ⟨rfl, rfl⟩ ⟨Nat.le_of_ble_eq_true rfl, Nat.le_of_ble_eq_true rfl⟩ (Nat.le_of_ble_eq_true rfl) ⟨Nat.le_of_ble_eq_true rfl, Nat.le_of_ble_eq_true rfl⟩ dX12_readPerson_35 rfl (st := [.int x_36, .ref x]) (fun x_39 I_40 J_41 h_42 => ?_)
      obtain ⟨hUI_40, hFI_40, hGJ_41, rx_39, fx_39, ex_39⟩ := h_42
      have hF_43 := fq_tr hF_27 hFI_40 (by decide)
      have hG_44 := fq_tr hG_28 hGJ_41 (by decide)
      obtain ⟨s_46, hs_46⟩ : ∃ z, MTq I_40 J_41 x b_2 = z := ⟨_, rfl⟩
      obtain ⟨s_47, hs_47⟩ : ∃ z, NRq I_40 J_41 x b_1 b_4 = z := ⟨_, rfl⟩
      have c_45 : mReadNumber (0) (20) (s_30) (s_31) = (x_39, s_46, s_47) := by have q := fx_39; simp only [emqx, enqx, hs_30, hs_31, hs_46, hs_47] at q; exact q.symm
      obtain ⟨x_48, hx_48, rx_48⟩ := ex_getw (I := I_40) (a := x) (j := 13) (lo := (-2147483648)) (hi := 2147483647) hUI_40.1 hLx (ro_o hkx (by decide)) rfl
      have f_49 : s_47.told = x_48 := (congrArg NR_.told hs_47).symm.trans hx_48
      have q_50 := hx_48
      refine g_callVI C K (c_X12_put_4_10 W9 hLx hkx x_36 x_39 (rx_36) (rx_39) hUI_40  (fun hq => by have n_51 : ¬ x_39 = 0 := hq; have r_52 := ne_lo (lo := 1) n_51 rx_39 rc_0 rfl (by decide); have r_53 := rg_i rx_48 (eq_rg q_50.symm ((ex_39.2) n_51)) (lo := 0) (hi := 20) (by decide) (by decide); exact eq_rg hx_48 (r_53))) hLx hkx (by decide) rfl v_12_187 rfl ⟨rfl, rfl⟩ ⟨Nat.le_of_ble_eq_true rfl, Nat.le_of_ble_eq_true rfl⟩ (Nat.le_of_ble_eq_true rfl) ⟨Nat.le_of_ble_eq_true rfl, Nat.le_of_ble_eq_true rfl⟩ dX12_readPerson_38 rfl (st := []) (fun x_54 I_55 J_56 h_57 => ?_)
      obtain ⟨hUI_55, hFI_55, hGJ_56, rx_54, fx_54, ex_54⟩ := h_57
      have hF_58 := fq_tr hF_43 hFI_55 (by decide)
      have hG_59 := fq_tr hG_44 hGJ_56 (by decide)
      obtain ⟨s_61, hs_61⟩ : ∃ z, NRq I_55 J_56 x b_1 b_4 = z := ⟨_, rfl⟩
      have c_60 : mPut (x_36) (x_39) (s_47) = (x_54, s_61) := by have q := fx_54; simp only [enqx, hs_47, hs_61] at q; exact q.symm
      have hs_62 : MTq I_55 J_56 x b_2 = s_46 := (mq_fq wmqx hFI_55 hGJ_56 (by decide) (by decide)).trans hs_46
      have q_63 := ((ex_54.2 _ hb_1).1).trans (fq_ar hFI_40 hb_1L (ro_a hb_1k (by decide) hb_1o hkx rfl) (by decide) (by decide) (fq_ar hFI_24 hb_1L (ro_a hb_1k (by decide) hb_1o hkx rfl) (by decide) (by decide) hx_15))
      refine g_if_ne C (tgt := 46) dX12_readPerson_41 (by decide) (fun h_64 => ?_) (fun h_64 => ?_)
      · skip
        have n_65 : ¬ x_54 = 0 := h_64
        have r_66 := ne_lo (lo := 1) n_65 rx_54 rc_0 rfl (by decide)
        have n_67 : ¬ x_39 = 0 := (fun q => n_65 (Eq.trans ex_54.1 q))
        have r_68 := ne_lo (lo := 1) n_67 rx_39 rc_0 rfl (by decide)
        have r_69 := rg_i rx_48 (eq_rg q_50.symm ((ex_39.2) n_67)) (lo := 0) (hi := 20) (by decide) (by decide)
        refine g_aload_n C 1 dX12_readPerson_46 rfl rfl ?_
        refine g_getR C K hLx hkx f_12_16 hb_1 dX12_readPerson_47 ?_
        refine g_bipush C (v := 11) dX12_readPerson_50 (by decide) ?_
        refine g_iload_n C 0 dX12_readPerson_52 rfl rfl ?_
        obtain ⟨x_70, hx_70, rx_70, tx_70⟩ := ex_add 11 17 rc_11 r_20 (by decide) (by decide) (by decide) (by decide)
        refine g_iadd C (v := x_70) dX12_readPerson_53 hx_70 ?_
        refine g_iconst C (v := (-1)) dX12_readPerson_54 (by decide) ?_
        refine h_iast C K hb_1L hb_1k (x_70.toNatClampNeg) (rfl) (ix_0 rx_70 (by decide)) (ix_lt rx_70 (by decide) hb_1n (by decide)) dX12_readPerson_55 (fun I_71 hI_71 => ?_)
        have hU_72 := iw_put W9 hUI_55 hI_71 (ro_a hb_1k (by decide) hb_1o hkx rfl) (lo := (-2147483648)) (hi := 2147483647) (bn_835.trans (zq_11 (ix_k (lo := 11) (hi := 17) rx_70 (by decide) (by decide) (by decide)))) (rg_all _) rfl
        have hF_73 := fq_puta hF_58 hI_71 (ro_a hb_1k (by decide) hb_1o hkx rfl) (by decide) (by decide)
        have hs_74 : MTq I_71 J_56 x b_2 = s_46 := by rw [hI_71]; exact (mq_oI wmqx (ro_a hb_1k (by decide) hb_1o hkx rfl) (by decide)).trans hs_62
        have hs_75 : NRq I_71 J_56 x b_1 b_4 = (NR_.w_rd s_61 (up1 (s_61.rd) (x_70.toNatClampNeg) ((-1)))) := by rw [hI_71]; exact ((nq_rd wnqx).trans (congrArg (fun z : NR_ => NR_.w_rd z (up1 (z.rd) (x_70.toNatClampNeg) ((-1)))) hs_61)).trans rfl
        refine g_aload_n C 1 dX12_readPerson_56 rfl rfl ?_
        refine g_bipush C (v := 22) dX12_readPerson_57 (by decide) ?_
        refine g_callVI C K (c_X12_isWord W9 hLx hkx 22 (rg_w rc_22 (by decide) (by decide)) hU_72) hLx hkx (by decide) rfl v_12_191 rfl ⟨rfl, rfl⟩ ⟨Nat.le_of_ble_eq_true rfl, Nat.le_of_ble_eq_true rfl⟩ (Nat.le_of_ble_eq_true rfl) ⟨Nat.le_of_ble_eq_true rfl, Nat.le_of_ble_eq_true rfl⟩ dX12_readPerson_59 rfl (st := []) (fun x_76 I_77 J_78 h_79 => ?_)
        obtain ⟨rfl, rfl, rx_76, fx_76⟩ := h_79
        have c_80 : mIsWord (22) (s_46) = x_76 := by have q := fx_76; simp only [emqx, hs_74] at q; exact q.symm
        refine g_if_eq C (tgt := 88) dX12_readPerson_62 (by decide) (fun h_81 => ?_) (fun h_81 => ?_)
        · skip
          have r_82 := (⟨(rx_76).1, (eq_rg (h_81) rc_0).2⟩ : Rg 0 0 x_76)
          refine g_aload_n C 1 dX12_readPerson_88 rfl rfl ?_
          refine g_getR C K hLx hkx f_12_16 hb_1 dX12_readPerson_89 ?_
          refine g_iconst C (v := 0) dX12_readPerson_92 (by decide) ?_
          refine g_dup2 C dX12_readPerson_93 rfl rfl ?_
          refine h_iald C K hb_1L hb_1k (v := x_15) (0) (by decide) (by decide) (by rw [hb_1n]; decide) (kp_j hI_71 (ix_ne rx_70 (by decide)) q_63) dX12_readPerson_94 ?_
          have f_84 : (up1 (s_61.rd) (x_70.toNatClampNeg) ((-1))) (0) = x_15 := (congrFun (congrArg NR_.rd hs_75) _).symm.trans (kp_j hI_71 (ix_ne rx_70 (by decide)) q_63)
          refine g_iconst C (v := 1) dX12_readPerson_95 (by decide) ?_
          obtain ⟨x_85, hx_85, rx_85, tx_85⟩ := ex_add 1 7 r_20 rc_1 (by decide) (by decide) (by decide) (by decide)
          refine g_iadd C (v := x_85) dX12_readPerson_96 hx_85 ?_
          refine h_iast C K hb_1L hb_1k (0) (by decide) (by decide) (by rw [hb_1n]; decide) dX12_readPerson_97 (fun I_86 hI_86 => ?_)
          have hU_87 := iw_put W9 hU_72 hI_86 (ro_a hb_1k (by decide) hb_1o hkx rfl) (lo := 0) (hi := 7) (by decide) (rg_w rx_85 (by decide) (by decide)) rfl
          have hF_88 := fq_puta hF_73 hI_86 (ro_a hb_1k (by decide) hb_1o hkx rfl) (by decide) (by decide)
          have hs_89 : MTq I_86 J_56 x b_2 = s_46 := by rw [hI_86]; exact (mq_oI wmqx (ro_a hb_1k (by decide) hb_1o hkx rfl) (by decide)).trans hs_74
          have hs_90 : NRq I_86 J_56 x b_1 b_4 = (NR_.w_rd s_61 (up1 (up1 (s_61.rd) (x_70.toNatClampNeg) ((-1))) (0) (x_85))) := by rw [hI_86]; exact ((nq_rd wnqx).trans (congrArg (fun z : NR_ => NR_.w_rd z (up1 (z.rd) (0) (x_85))) hs_75)).trans rfl
          refine g_iconst C (v := 1) dX12_readPerson_98 (by decide) ?_
          exact g_zret (ty := .boolean) (r := 1) B K rfl (rfl) ⟨hU_87, hF_88, hG_59, rg_w rc_1 (by decide) (by decide), (by simp only [mReadPerson, mReadPerson2, mInc, emqx, hs_89, hs_3, enqx, hs_90, hs_5, c_12, hx_15, h_17, f_22, c_29, h_32, hx_36, hx_37, f_38, c_45, hx_48, f_49, c_60, h_64, hx_70, c_80, (eq_true h_81), f_84, hx_85, if_true, if_false, mqM_tp, mqM_size, mqM_limit, mqM_to, mqM_frm, mqM_kind, mqM_number, mqM_sign, mqM_word, MT_.w_tp, MT_.w_size, MT_.w_limit, MT_.w_to, MT_.w_frm, MT_.w_kind, MT_.w_number, MT_.w_sign, MT_.w_word, nqM_rd, nqM_rn, nqM_taped, nqM_mfault, nqM_mplace, nqM_told, nqM_hl, nqM_hd, NR_.w_rd, NR_.w_rn, NR_.w_taped, NR_.w_mfault, NR_.w_mplace, NR_.w_told, NR_.w_hl, NR_.w_hd]), ⟨(pg_u (pg_u (pg_fq (pg_t (pg_t (pg_t pg_rf ex_6.1.1) ex_23.1) ex_39.1.1) hFI_55 hLx hkx (by decide) (by decide)) hI_71 (Or.inl (kn_k hkx hb_1k (by decide))) (Or.inl (kn_k hkx hb_1k (by decide)))) hI_86 (Or.inl (kn_k hkx hb_1k (by decide))) (Or.inl (kn_k hkx hb_1k (by decide)))), fun _ => (ps_u (ps_u (ps_fq (ps_t2 (pg_t (pg_t pg_rf ex_6.1.1) ex_23.1) (ex_39.1.2 n_67)) hFI_55 hLx hkx (by decide) (by decide)) hI_71 (Or.inl (kn_k hkx hb_1k (by decide))) (Or.inl (kn_k hkx hb_1k (by decide)))) hI_86 (Or.inl (kn_k hkx hb_1k (by decide))) (Or.inl (kn_k hkx hb_1k (by decide))))⟩⟩ dX12_readPerson_99
        · skip
          have n_91 : ¬ x_76 = 0 := h_81
          have r_92 := ne_lo (lo := 1) n_91 rx_76 rc_0 rfl (by decide)
          refine g_aload_n C 1 dX12_readPerson_65 rfl rfl ?_
          refine g_callVV C K (c_X12_go W9 hLx hkx   hU_72) hLx hkx (by decide) rfl v_12_156 rfl ⟨rfl, rfl⟩ ⟨Nat.le_of_ble_eq_true rfl, Nat.le_of_ble_eq_true rfl⟩ (Nat.le_of_ble_eq_true rfl) ⟨Nat.le_of_ble_eq_true rfl, Nat.le_of_ble_eq_true rfl⟩ dX12_readPerson_66 rfl (st := []) (fun I_94 J_95 h_96 => ?_)
          obtain ⟨hUI_94, hFI_94, hGJ_95, fx_93, ex_93⟩ := h_96
          have hF_97 := fq_tr hF_73 hFI_94 (by decide)
          have hG_98 := fq_tr hG_59 hGJ_95 (by decide)
          obtain ⟨s_100, hs_100⟩ : ∃ z, MTq I_94 J_95 x b_2 = z := ⟨_, rfl⟩
          have c_99 : mGo (s_46) = s_100 := by have q := fx_93; simp only [emqx, hs_74, hs_100] at q; exact q.symm
          have hs_101 : NRq I_94 J_95 x b_1 b_4 = (NR_.w_rd s_61 (up1 (s_61.rd) (x_70.toNatClampNeg) ((-1)))) := (nq_fq wnqx hFI_94 hGJ_95 (by decide) (by decide)).trans hs_75
          refine g_aload_n C 1 dX12_readPerson_69 rfl rfl ?_
          refine g_bipush C (v := 11) dX12_readPerson_70 (by decide) ?_
          refine g_iload_n C 0 dX12_readPerson_72 rfl rfl ?_
          refine g_iadd C (v := x_70) dX12_readPerson_73 hx_70 ?_
          refine g_aload_n C 1 dX12_readPerson_74 rfl rfl ?_
          refine g_iconst C (v := 0) dX12_readPerson_75 (by decide) ?_
          refine g_iload_n C 0 dX12_readPerson_76 rfl rfl ?_
          have f_102 : s_61.told = x_48 := (congrArg NR_.told hs_101).symm.trans (fq_at hFI_94 hLx hkx (by decide) (by decide) (kp_k (κ := κ) hI_71 (by rw [hkx, hb_1k]; decide) (fq_at hFI_55 hLx hkx (by decide) (by decide) hx_48)))
          refine g_callVI C K (c_X12_readOne_0 W9 hLx hkx x_15 (rg_w r_20 (by decide) (by decide)) hUI_94) hLx hkx (by decide) rfl v_12_194 rfl ⟨rfl, rfl⟩ ⟨Nat.le_of_ble_eq_true rfl, Nat.le_of_ble_eq_true rfl⟩ (Nat.le_of_ble_eq_true rfl) ⟨Nat.le_of_ble_eq_true rfl, Nat.le_of_ble_eq_true rfl⟩ dX12_readPerson_77 rfl (st := [.int x_70, .ref x]) (fun x_103 I_104 J_105 h_106 => ?_)
          obtain ⟨hUI_104, hFI_104, hGJ_105, rx_103, fx_103, ex_103⟩ := h_106
          have hF_107 := fq_tr hF_97 hFI_104 (by decide)
          have hG_108 := fq_tr hG_98 hGJ_105 (by decide)
          obtain ⟨s_110, hs_110⟩ : ∃ z, MTq I_104 J_105 x b_2 = z := ⟨_, rfl⟩
          obtain ⟨s_111, hs_111⟩ : ∃ z, NRq I_104 J_105 x b_1 b_4 = z := ⟨_, rfl⟩
          have c_109 : mReadOne (0) (x_15) (s_100) ((NR_.w_rd s_61 (up1 (s_61.rd) (x_70.toNatClampNeg) ((-1))))) = (x_103, s_110, s_111) := by have q := fx_103; simp only [emqx, enqx, hs_100, hs_101, hs_110, hs_111] at q; exact q.symm
          obtain ⟨x_112, hx_112, rx_112⟩ := ex_getw (I := I_104) (a := x) (j := 13) (lo := (-2147483648)) (hi := 2147483647) hUI_104.1 hLx (ro_o hkx (by decide)) rfl
          have f_113 : s_111.told = x_112 := (congrArg NR_.told hs_111).symm.trans hx_112
          have q_114 := hx_112
          have q_115 := (fq_ar hFI_104 hb_1L (ro_a hb_1k (by decide) hb_1o hkx rfl) (by decide) (by decide) (fq_ar hFI_94 hb_1L (ro_a hb_1k (by decide) hb_1o hkx rfl) (by decide) (by decide) (kp_j hI_71 (ix_ne rx_70 (by decide)) q_63)))
          refine g_callVI C K (c_X12_put_11_17 W9 hLx hkx x_70 x_103 (rx_70) (rx_103) hUI_104) hLx hkx (by decide) rfl v_12_187 rfl ⟨rfl, rfl⟩ ⟨Nat.le_of_ble_eq_true rfl, Nat.le_of_ble_eq_true rfl⟩ (Nat.le_of_ble_eq_true rfl) ⟨Nat.le_of_ble_eq_true rfl, Nat.le_of_ble_eq_true rfl⟩ dX12_readPerson_80 rfl (st := []) (fun x_116 I_117 J_118 h_119 => ?_)
          obtain ⟨hUI_117, hFI_117, hGJ_118, rx_116, fx_116, ex_116⟩ := h_119
          have hF_120 := fq_tr hF_107 hFI_117 (by decide)
          have hG_121 := fq_tr hG_108 hGJ_118 (by decide)
          obtain ⟨s_123, hs_123⟩ : ∃ z, NRq I_117 J_118 x b_1 b_4 = z := ⟨_, rfl⟩
          have c_122 : mPut (x_70) (x_103) (s_111) = (x_116, s_123) := by have q := fx_116; simp only [enqx, hs_111, hs_123] at q; exact q.symm
          have hs_124 : MTq I_117 J_118 x b_2 = s_110 := (mq_fq wmqx hFI_117 hGJ_118 (by decide) (by decide)).trans hs_110
          have q_125 := ((ex_116.2 _ hb_1).1).trans q_115
          refine g_if_ne C (tgt := 88) dX12_readPerson_83 (by decide) (fun h_126 => ?_) (fun h_126 => ?_)
          · skip
            have n_127 : ¬ x_116 = 0 := h_126
            have r_128 := ne_lo (lo := 1) n_127 rx_116 rc_0 rfl (by decide)
            have n_129 : ¬ x_103 = 0 := (fun q => n_127 (Eq.trans ex_116.1 q))
            have r_130 := ne_lo (lo := 1) n_129 rx_103 rc_0 rfl (by decide)
            have r_131 := rg_i rx_112 (eq_rg q_114.symm ((ex_103.2) n_129)) (lo := 0) (hi := 6) (by decide) (by decide)
            refine g_aload_n C 1 dX12_readPerson_88 rfl rfl ?_
            refine g_getR C K hLx hkx f_12_16 hb_1 dX12_readPerson_89 ?_
            refine g_iconst C (v := 0) dX12_readPerson_92 (by decide) ?_
            refine g_dup2 C dX12_readPerson_93 rfl rfl ?_
            refine h_iald C K hb_1L hb_1k (v := x_15) (0) (by decide) (by decide) (by rw [hb_1n]; decide) q_125 dX12_readPerson_94 ?_
            have f_133 : s_123.rd (0) = x_15 := (congrFun (congrArg NR_.rd hs_123) _).symm.trans q_125
            refine g_iconst C (v := 1) dX12_readPerson_95 (by decide) ?_
            obtain ⟨x_134, hx_134, rx_134, tx_134⟩ := ex_add 1 7 r_20 rc_1 (by decide) (by decide) (by decide) (by decide)
            refine g_iadd C (v := x_134) dX12_readPerson_96 hx_134 ?_
            refine h_iast C K hb_1L hb_1k (0) (by decide) (by decide) (by rw [hb_1n]; decide) dX12_readPerson_97 (fun I_135 hI_135 => ?_)
            have hU_136 := iw_put W9 hUI_117 hI_135 (ro_a hb_1k (by decide) hb_1o hkx rfl) (lo := 0) (hi := 7) (by decide) (rg_w rx_134 (by decide) (by decide)) rfl
            have hF_137 := fq_puta hF_120 hI_135 (ro_a hb_1k (by decide) hb_1o hkx rfl) (by decide) (by decide)
            have hs_138 : MTq I_135 J_118 x b_2 = s_110 := by rw [hI_135]; exact (mq_oI wmqx (ro_a hb_1k (by decide) hb_1o hkx rfl) (by decide)).trans hs_124
            have hs_139 : NRq I_135 J_118 x b_1 b_4 = (NR_.w_rd s_123 (up1 (s_123.rd) (0) (x_134))) := by rw [hI_135]; exact ((nq_rd wnqx).trans (congrArg (fun z : NR_ => NR_.w_rd z (up1 (z.rd) (0) (x_134))) hs_123)).trans rfl
            refine g_iconst C (v := 1) dX12_readPerson_98 (by decide) ?_
            exact g_zret (ty := .boolean) (r := 1) B K rfl (rfl) ⟨hU_136, hF_137, hG_121, rg_w rc_1 (by decide) (by decide), (by (try simp only [c_12, hx_15, h_17, f_22, c_29, h_32, hx_36, hx_37, f_38, c_45, hx_48, f_49, c_60, h_64, hx_70, c_80, h_81, c_99, f_102, hx_112, f_113, c_122, h_126, f_133, hx_134, if_true, if_false, mqM_tp, mqM_size, mqM_limit, mqM_to, mqM_frm, mqM_kind, mqM_number, mqM_sign, mqM_word, MT_.w_tp, MT_.w_size, MT_.w_limit, MT_.w_to, MT_.w_frm, MT_.w_kind, MT_.w_number, MT_.w_sign, MT_.w_word, nqM_rd, nqM_rn, nqM_taped, nqM_mfault, nqM_mplace, nqM_told, nqM_hl, nqM_hd, NR_.w_rd, NR_.w_rn, NR_.w_taped, NR_.w_mfault, NR_.w_mplace, NR_.w_told, NR_.w_hl, NR_.w_hd] at c_109); simp only [mReadPerson, mReadPerson2, mInc, emqx, hs_138, hs_3, enqx, hs_139, hs_5, c_12, hx_15, h_17, f_22, c_29, h_32, hx_36, hx_37, f_38, c_45, hx_48, f_49, c_60, h_64, hx_70, c_80, h_81, c_99, f_102, c_109, hx_112, f_113, c_122, h_126, f_133, hx_134, if_true, if_false, mqM_tp, mqM_size, mqM_limit, mqM_to, mqM_frm, mqM_kind, mqM_number, mqM_sign, mqM_word, MT_.w_tp, MT_.w_size, MT_.w_limit, MT_.w_to, MT_.w_frm, MT_.w_kind, MT_.w_number, MT_.w_sign, MT_.w_word, nqM_rd, nqM_rn, nqM_taped, nqM_mfault, nqM_mplace, nqM_told, nqM_hl, nqM_hd, NR_.w_rd, NR_.w_rn, NR_.w_taped, NR_.w_mfault, NR_.w_mplace, NR_.w_told, NR_.w_hl, NR_.w_hd]), ⟨(pg_u (pg_fq (pg_t (pg_s (ps_t2 (pg_u (pg_fq (pg_t (pg_t (pg_t pg_rf ex_6.1.1) ex_23.1) ex_39.1.1) hFI_55 hLx hkx (by decide) (by decide)) hI_71 (Or.inl (kn_k hkx hb_1k (by decide))) (Or.inl (kn_k hkx hb_1k (by decide)))) ex_93)) ex_103.1.1) hFI_117 hLx hkx (by decide) (by decide)) hI_135 (Or.inl (kn_k hkx hb_1k (by decide))) (Or.inl (kn_k hkx hb_1k (by decide)))), fun _ => (ps_u (ps_fq (ps_t2 (pg_s (ps_t2 (pg_u (pg_fq (pg_t (pg_t (pg_t pg_rf ex_6.1.1) ex_23.1) ex_39.1.1) hFI_55 hLx hkx (by decide) (by decide)) hI_71 (Or.inl (kn_k hkx hb_1k (by decide))) (Or.inl (kn_k hkx hb_1k (by decide)))) ex_93)) (ex_103.1.2 n_129)) hFI_117 hLx hkx (by decide) (by decide)) hI_135 (Or.inl (kn_k hkx hb_1k (by decide))) (Or.inl (kn_k hkx hb_1k (by decide))))⟩⟩ dX12_readPerson_99
          · skip
            have r_140 := (⟨(rx_116).1, (eq_rg (h_126) rc_0).2⟩ : Rg 0 0 x_116)
            refine g_iconst C (v := 0) dX12_readPerson_86 (by decide) ?_
            exact g_zret (ty := .boolean) (r := 0) B K rfl (rfl) ⟨hUI_117, hF_120, hG_121, rg_w rc_0 (by decide) (by decide), (by (try simp only [c_12, hx_15, h_17, f_22, c_29, h_32, hx_36, hx_37, f_38, c_45, hx_48, f_49, c_60, h_64, hx_70, c_80, h_81, c_99, f_102, hx_112, f_113, c_122, (eq_true h_126), if_true, if_false, mqM_tp, mqM_size, mqM_limit, mqM_to, mqM_frm, mqM_kind, mqM_number, mqM_sign, mqM_word, MT_.w_tp, MT_.w_size, MT_.w_limit, MT_.w_to, MT_.w_frm, MT_.w_kind, MT_.w_number, MT_.w_sign, MT_.w_word, nqM_rd, nqM_rn, nqM_taped, nqM_mfault, nqM_mplace, nqM_told, nqM_hl, nqM_hd, NR_.w_rd, NR_.w_rn, NR_.w_taped, NR_.w_mfault, NR_.w_mplace, NR_.w_told, NR_.w_hl, NR_.w_hd] at c_109); simp only [mReadPerson, mReadPerson2, mInc, emqx, hs_124, hs_3, enqx, hs_123, hs_5, c_12, hx_15, h_17, f_22, c_29, h_32, hx_36, hx_37, f_38, c_45, hx_48, f_49, c_60, h_64, hx_70, c_80, h_81, c_99, f_102, c_109, hx_112, f_113, c_122, (eq_true h_126), if_true, if_false, mqM_tp, mqM_size, mqM_limit, mqM_to, mqM_frm, mqM_kind, mqM_number, mqM_sign, mqM_word, MT_.w_tp, MT_.w_size, MT_.w_limit, MT_.w_to, MT_.w_frm, MT_.w_kind, MT_.w_number, MT_.w_sign, MT_.w_word, nqM_rd, nqM_rn, nqM_taped, nqM_mfault, nqM_mplace, nqM_told, nqM_hl, nqM_hd, NR_.w_rd, NR_.w_rn, NR_.w_taped, NR_.w_mfault, NR_.w_mplace, NR_.w_told, NR_.w_hl, NR_.w_hd]), ⟨(pg_fq (pg_t (pg_s (ps_t2 (pg_u (pg_fq (pg_t (pg_t (pg_t pg_rf ex_6.1.1) ex_23.1) ex_39.1.1) hFI_55 hLx hkx (by decide) (by decide)) hI_71 (Or.inl (kn_k hkx hb_1k (by decide))) (Or.inl (kn_k hkx hb_1k (by decide)))) ex_93)) ex_103.1.1) hFI_117 hLx hkx (by decide) (by decide)), fun q => absurd rfl q⟩⟩ dX12_readPerson_87
      · skip
        have r_141 := (⟨(rx_54).1, (eq_rg (h_64) rc_0).2⟩ : Rg 0 0 x_54)
        refine g_iconst C (v := 0) dX12_readPerson_44 (by decide) ?_
        exact g_zret (ty := .boolean) (r := 0) B K rfl (rfl) ⟨hUI_55, hF_58, hG_59, rg_w rc_0 (by decide) (by decide), (by simp only [mReadPerson, mReadPerson2, mInc, emqx, hs_62, hs_3, enqx, hs_61, hs_5, c_12, hx_15, h_17, f_22, c_29, h_32, hx_36, hx_37, f_38, c_45, hx_48, f_49, c_60, (eq_true h_64), if_true, if_false, mqM_tp, mqM_size, mqM_limit, mqM_to, mqM_frm, mqM_kind, mqM_number, mqM_sign, mqM_word, MT_.w_tp, MT_.w_size, MT_.w_limit, MT_.w_to, MT_.w_frm, MT_.w_kind, MT_.w_number, MT_.w_sign, MT_.w_word, nqM_rd, nqM_rn, nqM_taped, nqM_mfault, nqM_mplace, nqM_told, nqM_hl, nqM_hd, NR_.w_rd, NR_.w_rn, NR_.w_taped, NR_.w_mfault, NR_.w_mplace, NR_.w_told, NR_.w_hl, NR_.w_hd]), ⟨(pg_fq (pg_t (pg_t (pg_t pg_rf ex_6.1.1) ex_23.1) ex_39.1.1) hFI_55 hLx hkx (by decide) (by decide)), fun q => absurd rfl q⟩⟩ dX12_readPerson_45
  · skip
    have r_142 := (⟨(rx_6).1, (eq_rg (h_17) rc_0).2⟩ : Rg 0 0 x_6)
    refine g_iconst C (v := 0) dX12_readPerson_10 (by decide) ?_
    exact g_zret (ty := .boolean) (r := 0) B K rfl (rfl) ⟨hUI_7, hF_10, hG_11, rg_w rc_0 (by decide) (by decide), (by simp only [mReadPerson, mReadPerson2, mInc, emqx, hs_13, hs_3, enqx, hs_14, hs_5, c_12, hx_15, (eq_true h_17), if_true, if_false, mqM_tp, mqM_size, mqM_limit, mqM_to, mqM_frm, mqM_kind, mqM_number, mqM_sign, mqM_word, MT_.w_tp, MT_.w_size, MT_.w_limit, MT_.w_to, MT_.w_frm, MT_.w_kind, MT_.w_number, MT_.w_sign, MT_.w_word, nqM_rd, nqM_rn, nqM_taped, nqM_mfault, nqM_mplace, nqM_told, nqM_hl, nqM_hd, NR_.w_rd, NR_.w_rn, NR_.w_taped, NR_.w_mfault, NR_.w_mplace, NR_.w_told, NR_.w_hl, NR_.w_hd]), ⟨(pg_t pg_rf ex_6.1.1), fun q => absurd rfl q⟩⟩ dX12_readPerson_11
set_option maxRecDepth 100000 in
set_option maxHeartbeats 8000000 in
theorem c_X12_isOne_7 {l : Launch} {D : va_G} {cy : Nat → ClassId} {L : List Nat} {κ ln : Nat → Nat} {R : Nat → Nat → Option Nat} {I : Nat → Nat → Int32} {J : Nat → Nat → Int64} {ow : Nat → Nat × Nat} (W9 : ∀ a ∈ L, Shp L κ ln R ow a) {x : Nat} (hLx : x ∈ L) (hkx : κ x = 12) (a1 : Int32) (ra1 : Rg 0 6 a1) (hU : Iw L κ R ow I) : CtI l yX12_isOne cX12_isOne 3 (some .boolean) { frames := 3, cells := 0, slots := 0, locals := 69 } D cy L κ ln R I J [.ref x, .int 7, .int a1] (fun r I2 J2 => Iw L κ R ow I2 ∧ Fq L κ ow [1210, 1211, 1213] I I2 ∧ Fq L κ ow [] J J2 ∧ Rg 0 1 r ∧ ((r, MTf R I2 J2 x, NRf R I2 J2 x) = mIsOne (7) a1 (MTf R I J x) (NRf R I J x)) ∧ (¬ r = 0 → Rg 0 5 (I2 x 13))) := by
  refine CtI.of (by decide +kernel) (Nat.le_of_ble_eq_true rfl) ?_
  intro p e s m below meth c B K
  have C := B.1
  have hF : Fq L κ ow [1210, 1211, 1213] I I := fq_rf
  have hG : Fq L κ ow [] J J := fq_rf
  obtain ⟨b_1, hb_1, hb_1L, hb_1k, hb_1n, hb_1o⟩ := shp_a (W9 x hLx) hkx 20 15 13 rfl (by decide)
  obtain ⟨b_2, hb_2, hb_2L, hb_2k, hb_2n, hb_2o⟩ := shp_a (W9 x hLx) hkx 1 14 940 rfl (by decide)
  have emqx : ∀ I J, MTf R I J x = MTq I J x b_2 := fun I J => by simp only [MTf, rr_, Option.getD_some, hb_2]
  have wmqx : mqw_ L κ ow x b_2 := ⟨⟨hLx, hb_2L⟩, ⟨(ro_o hkx (by decide)), (ro_a hb_2k (by decide) hb_2o hkx rfl)⟩⟩
  obtain ⟨s_3, hs_3⟩ : ∃ z, MTq I J x b_2 = z := ⟨_, rfl⟩
  obtain ⟨b_4, hb_4, hb_4L, hb_4k, hb_4n, hb_4o⟩ := shp_a (W9 x hLx) hkx 15 14 72 rfl (by decide)
  have enqx : ∀ I J, NRf R I J x = NRq I J x b_4 b_1 := fun I J => by simp only [NRf, rr_, Option.getD_some, hb_4, hb_1]
  have wnqx : nqw_ L κ ow x b_4 b_1 := ⟨⟨hLx, hb_4L, hb_1L⟩, ⟨(ro_o hkx (by decide)), (ro_a hb_4k (by decide) hb_4o hkx rfl), (ro_a hb_1k (by decide) hb_1o hkx rfl)⟩⟩
  obtain ⟨s_5, hs_5⟩ : ∃ z, NRq I J x b_4 b_1 = z := ⟨_, rfl⟩
  refine g_lo (is := [0, 1, 2]) (lo2 := [(0, .ref x), (1, .int 7), (2, .int a1)]) rfl ?_
  refine g_aload_n C 0 dX12_isOne_0 rfl rfl ?_
  refine g_callVI C K (c_X12_isName W9 hLx hkx   hU) hLx hkx (by decide) rfl v_12_166 rfl ⟨rfl, rfl⟩ ⟨Nat.le_of_ble_eq_true rfl, Nat.le_of_ble_eq_true rfl⟩ (Nat.le_of_ble_eq_true rfl) ⟨Nat.le_of_ble_eq_true rfl, Nat.le_of_ble_eq_true rfl⟩ dX12_isOne_1 rfl (st := []) (fun x_6 I_7 J_8 h_9 => ?_)
  obtain ⟨rfl, rfl, rx_6, fx_6⟩ := h_9
  have c_10 : mIsName (s_3) = x_6 := by have q := fx_6; simp only [emqx, hs_3] at q; exact q.symm
  refine g_if_ne C (tgt := 13) dX12_isOne_4 (by decide) (fun h_11 => ?_) (fun h_11 => ?_)
  · skip
    have n_12 : ¬ x_6 = 0 := h_11
    have r_13 := ne_lo (lo := 1) n_12 rx_6 rc_0 rfl (by decide)
    refine g_aload_n C 0 dX12_isOne_13 rfl rfl ?_
    refine g_aload_n C 0 dX12_isOne_14 rfl rfl ?_
    refine g_getR C K hLx hkx f_12_32 hb_1 dX12_isOne_15 ?_
    refine g_iload_n C 1 dX12_isOne_18 rfl rfl ?_
    refine g_iload_n C 2 dX12_isOne_19 rfl rfl ?_
    refine g_aload_n C 0 dX12_isOne_20 rfl rfl ?_
    obtain ⟨y_14, hy_14⟩ : ∃ z, J x 12 = z := ⟨_, rfl⟩
    have f_15 : s_3.word = y_14 := (congrArg MT_.word hs_3).symm.trans hy_14
    refine g_getJ C K hLx hkx f_12_117 (v := y_14) hy_14 dX12_isOne_21 ?_
    refine g_callSI C K (c_X12_findIn_7 W9 hb_1L hb_1k hb_1n a1 y_14 (ra1) hU) s_12_170 rfl ⟨rfl, rfl⟩ ⟨Nat.le_of_ble_eq_true rfl, Nat.le_of_ble_eq_true rfl⟩ (Nat.le_of_ble_eq_true rfl) ⟨Nat.le_of_ble_eq_true rfl, Nat.le_of_ble_eq_true rfl⟩ dX12_isOne_24 rfl (st := [.ref x]) (fun x_16 I_17 J_18 h_19 => ?_)
    obtain ⟨rfl, rfl, rx_16, fx_16, ex_16⟩ := h_19
    have c_20 : mfnd s_5.rn (7) (a1) y_14 0 = x_16 := by have q := fx_16; rw [show J b_1 = s_5.rn from congrArg NR_.rn hs_5] at q; exact q.symm
    refine h_putI C K hLx hkx f_12_153 p_12_13 dX12_isOne_27 (fun I_21 hI_21 => ?_)
    have hU_22 := iw_put W9 hU hI_21 (ro_o hkx (by decide)) (lo := (-2147483648)) (hi := 2147483647) (rfl) (rg_all _) rfl
    have hF_23 := fq_puto hF hI_21 hkx (by decide) (by decide)
    have hs_24 : MTq I_21 J x b_2 = s_3 := by rw [hI_21]; exact (mq_uIt wmqx (by decide)).trans hs_3
    have hs_25 : NRq I_21 J x b_4 b_1 = (NR_.w_told s_5 (x_16)) := by rw [hI_21]; exact ((nq_told wnqx).trans (congrArg (fun z : NR_ => NR_.w_told z (x_16)) hs_5)).trans rfl
    refine g_aload_n C 0 dX12_isOne_30 rfl rfl ?_
    refine g_getI C K hLx hkx f_12_153 (v := x_16) (kp_s hI_21) dX12_isOne_31 ?_
    refine g_iconst C (v := (-1)) dX12_isOne_34 (by decide) ?_
    refine g_icmp_ne C (tgt := 46) dX12_isOne_35 (by decide) (fun h_26 => ?_) (fun h_26 => ?_)
    · skip
      have n_27 : ¬ x_16 = (-1) := h_26
      have r_28 := ne_lo (lo := 0) n_27 rx_16 rc_m1 rfl (by decide)
      refine g_iconst C (v := 1) dX12_isOne_46 (by decide) ?_
      refine g_goto C (tgt := 51) dX12_isOne_47 (by decide) ?_
      exact g_zret (ty := .boolean) (r := 1) B K rfl (rfl) ⟨hU_22, hF_23, hG, rg_w rc_1 (by decide) (by decide), (by simp only [mIsOne, emqx, hs_24, hs_3, enqx, hs_25, hs_5, c_10, h_11, hy_14, f_15, c_20, h_26, if_true, if_false, mqM_tp, mqM_size, mqM_limit, mqM_to, mqM_frm, mqM_kind, mqM_number, mqM_sign, mqM_word, MT_.w_tp, MT_.w_size, MT_.w_limit, MT_.w_to, MT_.w_frm, MT_.w_kind, MT_.w_number, MT_.w_sign, MT_.w_word, nqM_rd, nqM_rn, nqM_taped, nqM_mfault, nqM_mplace, nqM_told, nqM_hl, nqM_hd, NR_.w_rd, NR_.w_rn, NR_.w_taped, NR_.w_mfault, NR_.w_mplace, NR_.w_told, NR_.w_hl, NR_.w_hd]), (fun _ => eq_rg (kp_s hI_21) (r_28))⟩ dX12_isOne_51
    · skip
      have r_29 := (⟨(rx_16).1, (eq_rg (h_26) rc_m1).2⟩ : Rg (-1) (-1) x_16)
      refine g_aload_n C 0 dX12_isOne_38 rfl rfl ?_
      refine g_iconst C (v := 3) dX12_isOne_39 (by decide) ?_
      refine g_callVI C K (c_X12_bad W9 hLx hkx 3 (rg_w rc_3 (by decide) (by decide)) hU_22) hLx hkx (by decide) rfl v_12_146 rfl ⟨rfl, rfl⟩ ⟨Nat.le_of_ble_eq_true rfl, Nat.le_of_ble_eq_true rfl⟩ (Nat.le_of_ble_eq_true rfl) ⟨Nat.le_of_ble_eq_true rfl, Nat.le_of_ble_eq_true rfl⟩ dX12_isOne_40 rfl (st := []) (fun x_30 I_31 J_32 h_33 => ?_)
      obtain ⟨hUI_31, hFI_31, hGJ_32, rx_30, fx_30⟩ := h_33
      have hF_34 := fq_tr hF_23 hFI_31 (by decide)
      have hG_35 := fq_tr hG hGJ_32 (by decide)
      obtain ⟨s_37, hs_37⟩ : ∃ z, MTq I_31 J_32 x b_2 = z := ⟨_, rfl⟩
      obtain ⟨s_38, hs_38⟩ : ∃ z, NRq I_31 J_32 x b_4 b_1 = z := ⟨_, rfl⟩
      have c_36 : mBad (3) (s_3) ((NR_.w_told s_5 (x_16))) = (x_30, s_37, s_38) := by have q := fx_30; simp only [emqx, enqx, hs_24, hs_25, hs_37, hs_38] at q; exact q.symm
      refine g_if_eq C (tgt := 50) dX12_isOne_43 (by decide) (fun h_39 => ?_) (fun h_39 => ?_)
      · skip
        refine g_iconst C (v := 0) dX12_isOne_50 (by decide) ?_
        exact g_zret (ty := .boolean) (r := 0) B K rfl (rfl) ⟨hUI_31, hF_34, hG_35, rg_w rc_0 (by decide) (by decide), (by (try simp only [c_10, h_11, hy_14, f_15, c_20, (eq_true h_26), (eq_true h_39), if_true, if_false, mqM_tp, mqM_size, mqM_limit, mqM_to, mqM_frm, mqM_kind, mqM_number, mqM_sign, mqM_word, MT_.w_tp, MT_.w_size, MT_.w_limit, MT_.w_to, MT_.w_frm, MT_.w_kind, MT_.w_number, MT_.w_sign, MT_.w_word, nqM_rd, nqM_rn, nqM_taped, nqM_mfault, nqM_mplace, nqM_told, nqM_hl, nqM_hd, NR_.w_rd, NR_.w_rn, NR_.w_taped, NR_.w_mfault, NR_.w_mplace, NR_.w_told, NR_.w_hl, NR_.w_hd] at c_36); simp only [mIsOne, emqx, hs_37, hs_3, enqx, hs_38, hs_5, c_10, h_11, hy_14, f_15, c_20, (eq_true h_26), c_36, (eq_true h_39), if_true, if_false, mqM_tp, mqM_size, mqM_limit, mqM_to, mqM_frm, mqM_kind, mqM_number, mqM_sign, mqM_word, MT_.w_tp, MT_.w_size, MT_.w_limit, MT_.w_to, MT_.w_frm, MT_.w_kind, MT_.w_number, MT_.w_sign, MT_.w_word, nqM_rd, nqM_rn, nqM_taped, nqM_mfault, nqM_mplace, nqM_told, nqM_hl, nqM_hd, NR_.w_rd, NR_.w_rn, NR_.w_taped, NR_.w_mfault, NR_.w_mplace, NR_.w_told, NR_.w_hl, NR_.w_hd]), (fun q => absurd rfl q)⟩ dX12_isOne_51
      · skip
        exact ne_no (h_39) rx_30 rc_0
  · skip
    have r_40 := (⟨(rx_6).1, (eq_rg (h_11) rc_0).2⟩ : Rg 0 0 x_6)
    refine g_aload_n C 0 dX12_isOne_7 rfl rfl ?_
    refine g_iconst C (v := 1) dX12_isOne_8 (by decide) ?_
    refine g_callVI C K (c_X12_bad W9 hLx hkx 1 (rg_w rc_1 (by decide) (by decide)) hU) hLx hkx (by decide) rfl v_12_146 rfl ⟨rfl, rfl⟩ ⟨Nat.le_of_ble_eq_true rfl, Nat.le_of_ble_eq_true rfl⟩ (Nat.le_of_ble_eq_true rfl) ⟨Nat.le_of_ble_eq_true rfl, Nat.le_of_ble_eq_true rfl⟩ dX12_isOne_9 rfl (st := []) (fun x_41 I_42 J_43 h_44 => ?_)
    obtain ⟨hUI_42, hFI_42, hGJ_43, rx_41, fx_41⟩ := h_44
    have hF_45 := fq_tr hF hFI_42 (by decide)
    have hG_46 := fq_tr hG hGJ_43 (by decide)
    obtain ⟨s_48, hs_48⟩ : ∃ z, MTq I_42 J_43 x b_2 = z := ⟨_, rfl⟩
    obtain ⟨s_49, hs_49⟩ : ∃ z, NRq I_42 J_43 x b_4 b_1 = z := ⟨_, rfl⟩
    have c_47 : mBad (1) (s_3) (s_5) = (x_41, s_48, s_49) := by have q := fx_41; simp only [emqx, enqx, hs_3, hs_5, hs_48, hs_49] at q; exact q.symm
    exact g_zret (ty := .boolean) (r := x_41) B K rfl (nar_z (rg_w rx_41 (by decide) (by decide))) ⟨hUI_42, hF_45, hG_46, rg_w rx_41 (by decide) (by decide), (by simp only [mIsOne, emqx, hs_48, hs_3, enqx, hs_49, hs_5, c_10, (eq_true h_11), c_47, if_true, if_false, mqM_tp, mqM_size, mqM_limit, mqM_to, mqM_frm, mqM_kind, mqM_number, mqM_sign, mqM_word, MT_.w_tp, MT_.w_size, MT_.w_limit, MT_.w_to, MT_.w_frm, MT_.w_kind, MT_.w_number, MT_.w_sign, MT_.w_word, nqM_rd, nqM_rn, nqM_taped, nqM_mfault, nqM_mplace, nqM_told, nqM_hl, nqM_hd, NR_.w_rd, NR_.w_rn, NR_.w_taped, NR_.w_mfault, NR_.w_mplace, NR_.w_told, NR_.w_hl, NR_.w_hd]), (fun q => ne_no q rx_41 rc_0)⟩ dX12_isOne_12
set_option maxRecDepth 100000 in
set_option maxHeartbeats 8000000 in
theorem c_X12_put_30_71 {l : Launch} {D : va_G} {cy : Nat → ClassId} {L : List Nat} {κ ln : Nat → Nat} {R : Nat → Nat → Option Nat} {I : Nat → Nat → Int32} {J : Nat → Nat → Int64} {ow : Nat → Nat × Nat} (W9 : ∀ a ∈ L, Shp L κ ln R ow a) {x : Nat} (hLx : x ∈ L) (hkx : κ x = 12) (a0 : Int32) (a1 : Int32) (ra0 : Rg 30 71 a0) (ra1 : Rg 0 1 a1) (hU : Iw L κ R ow I) (hg : ¬ a1 = 0 → Rg 0 40 (I x 13)) : CtI l yX12_put cX12_put 3 (some .boolean) { frames := 0, cells := 0, slots := 0, locals := 0 } D cy L κ ln R I J [.ref x, .int a0, .int a1] (fun r I2 J2 => Iw L κ R ow I2 ∧ Fq L κ ow [83500] I I2 ∧ Fq L κ ow [] J J2 ∧ Rg 0 1 r ∧ ((r, NRf R I2 J2 x) = mPut a0 a1 (NRf R I J x)) ∧ r = a1 ∧ (∀ a, R x 15 = some a → I2 a 0 = I a 0 ∧ I2 a 1 = I a 1)) := by
  refine CtI.of (by decide +kernel) (Nat.le_of_ble_eq_true rfl) ?_
  intro p e s m below meth c B K
  have C := B.1
  have hF : Fq L κ ow [83500] I I := fq_rf
  have hG : Fq L κ ow [] J J := fq_rf
  obtain ⟨b_1, hb_1, hb_1L, hb_1k, hb_1n, hb_1o⟩ := shp_a (W9 x hLx) hkx 15 14 72 rfl (by decide)
  obtain ⟨b_2, hb_2, hb_2L, hb_2k, hb_2n, hb_2o⟩ := shp_a (W9 x hLx) hkx 20 15 13 rfl (by decide)
  have enqx : ∀ I J, NRf R I J x = NRq I J x b_1 b_2 := fun I J => by simp only [NRf, rr_, Option.getD_some, hb_1, hb_2]
  have wnqx : nqw_ L κ ow x b_1 b_2 := ⟨⟨hLx, hb_1L, hb_2L⟩, ⟨(ro_o hkx (by decide)), (ro_a hb_1k (by decide) hb_1o hkx rfl), (ro_a hb_2k (by decide) hb_2o hkx rfl)⟩⟩
  obtain ⟨s_3, hs_3⟩ : ∃ z, NRq I J x b_1 b_2 = z := ⟨_, rfl⟩
  refine g_lo (is := [0, 1, 2]) (lo2 := [(0, .ref x), (1, .int a0), (2, .int a1)]) rfl ?_
  refine g_iload_n C 2 dX12_put_0 rfl rfl ?_
  refine g_if_eq C (tgt := 14) dX12_put_1 (by decide) (fun h_4 => ?_) (fun h_4 => ?_)
  · skip
    have r_5 := (⟨(ra1).1, (eq_rg (h_4) rc_0).2⟩ : Rg 0 0 a1)
    refine g_iload_n C 2 dX12_put_14 rfl rfl ?_
    exact g_zret (ty := .boolean) (r := a1) B K rfl (nar_z (rg_w r_5 (by decide) (by decide))) ⟨hU, hF, hG, rg_w r_5 (by decide) (by decide), (by simp only [mPut, enqx, hs_3, (eq_true h_4), if_true, if_false, nqM_rd, nqM_rn, nqM_taped, nqM_mfault, nqM_mplace, nqM_told, nqM_hl, nqM_hd, NR_.w_rd, NR_.w_rn, NR_.w_taped, NR_.w_mfault, NR_.w_mplace, NR_.w_told, NR_.w_hl, NR_.w_hd]), rfl, (fun a ha => ⟨rfl, rfl⟩)⟩ dX12_put_15
  · skip
    have n_6 : ¬ a1 = 0 := h_4
    have r_7 := ne_lo (lo := 1) n_6 ra1 rc_0 rfl (by decide)
    obtain ⟨x_8, hx_8, rx_8⟩ := ex_getw (I := I) (a := x) (j := 13) (lo := (-2147483648)) (hi := 2147483647) hU.1 hLx (ro_o hkx (by decide)) rfl
    have f_9 : s_3.told = x_8 := (congrArg NR_.told hs_3).symm.trans hx_8
    have r_10 := rg_i rx_8 (eq_rg hx_8.symm (hg n_6)) (lo := 0) (hi := 40) (by decide) (by decide)
    refine g_aload_n C 0 dX12_put_4 rfl rfl ?_
    refine g_getR C K hLx hkx f_12_16 hb_1 dX12_put_5 ?_
    refine g_iload_n C 1 dX12_put_8 rfl rfl ?_
    refine g_aload_n C 0 dX12_put_9 rfl rfl ?_
    refine g_getI C K hLx hkx f_12_153 (v := x_8) hx_8 dX12_put_10 ?_
    refine h_iast C K hb_1L hb_1k (a0.toNatClampNeg) (rfl) (ix_0 ra0 (by decide)) (ix_lt ra0 (by decide) hb_1n (by decide)) dX12_put_13 (fun I_11 hI_11 => ?_)
    have hU_12 := iw_put W9 hU hI_11 (ro_a hb_1k (by decide) hb_1o hkx rfl) (lo := 0) (hi := 40) (bn_835.trans (zq_30 (ix_k (lo := 30) (hi := 71) ra0 (by decide) (by decide) (by decide)))) (r_10) rfl
    have hF_13 := fq_puta hF hI_11 (ro_a hb_1k (by decide) hb_1o hkx rfl) (by decide) (by decide)
    have hs_14 : NRq I_11 J x b_1 b_2 = (NR_.w_rd s_3 (up1 (s_3.rd) (a0.toNatClampNeg) (x_8))) := by rw [hI_11]; exact ((nq_rd wnqx).trans (congrArg (fun z : NR_ => NR_.w_rd z (up1 (z.rd) (a0.toNatClampNeg) (x_8))) hs_3)).trans rfl
    refine g_iload_n C 2 dX12_put_14 rfl rfl ?_
    exact g_zret (ty := .boolean) (r := a1) B K rfl (nar_z (rg_w r_7 (by decide) (by decide))) ⟨hU_12, hF_13, hG, rg_w r_7 (by decide) (by decide), (by simp only [mPut, enqx, hs_14, hs_3, h_4, hx_8, f_9, if_true, if_false, nqM_rd, nqM_rn, nqM_taped, nqM_mfault, nqM_mplace, nqM_told, nqM_hl, nqM_hd, NR_.w_rd, NR_.w_rn, NR_.w_taped, NR_.w_mfault, NR_.w_mplace, NR_.w_told, NR_.w_hl, NR_.w_hd]), rfl, (fun a ha => by rw [hb_1] at ha; cases ha; exact ⟨kp_j hI_11 (ix_ne ra0 (by decide)) rfl, kp_j hI_11 (ix_ne ra0 (by decide)) rfl⟩)⟩ dX12_put_15
set_option maxRecDepth 100000 in
set_option maxHeartbeats 8000000 in
theorem c_X12_readNumber_1_40 {l : Launch} {D : va_G} {cy : Nat → ClassId} {L : List Nat} {κ ln : Nat → Nat} {R : Nat → Nat → Option Nat} {I : Nat → Nat → Int32} {J : Nat → Nat → Int64} {ow : Nat → Nat × Nat} (W9 : ∀ a ∈ L, Shp L κ ln R ow a) {x : Nat} (hLx : x ∈ L) (hkx : κ x = 12) (hU : Iw L κ R ow I) : CtI l yX12_readNumber cX12_readNumber 3 (some .boolean) { frames := 2, cells := 0, slots := 0, locals := 45 } D cy L κ ln R I J [.ref x, .int 1, .int 40] (fun r I2 J2 => Iw L κ R ow I2 ∧ Fq L κ ow [1205, 1206, 1207, 1208, 1209, 1210, 1211, 1213] I I2 ∧ Fq L κ ow [1212] J J2 ∧ Rg 0 1 r ∧ ((r, MTf R I2 J2 x, NRf R I2 J2 x) = mReadNumber (1) (40) (MTf R I J x) (NRf R I J x)) ∧ (Pg_ x I I2 ∧ (¬ r = 0 → Ps_ x I I2)) ∧ (¬ r = 0 → Rg 1 40 (I2 x 13))) := by
  refine CtI.of (by decide +kernel) (Nat.le_of_ble_eq_true rfl) ?_
  intro p e s m below meth c B K
  have C := B.1
  have hF : Fq L κ ow [1205, 1206, 1207, 1208, 1209, 1210, 1211, 1213] I I := fq_rf
  have hG : Fq L κ ow [1212] J J := fq_rf
  obtain ⟨b_1, hb_1, hb_1L, hb_1k, hb_1n, hb_1o⟩ := shp_a (W9 x hLx) hkx 1 14 940 rfl (by decide)
  have emqx : ∀ I J, MTf R I J x = MTq I J x b_1 := fun I J => by simp only [MTf, rr_, Option.getD_some, hb_1]
  have wmqx : mqw_ L κ ow x b_1 := ⟨⟨hLx, hb_1L⟩, ⟨(ro_o hkx (by decide)), (ro_a hb_1k (by decide) hb_1o hkx rfl)⟩⟩
  obtain ⟨s_2, hs_2⟩ : ∃ z, MTq I J x b_1 = z := ⟨_, rfl⟩
  obtain ⟨b_3, hb_3, hb_3L, hb_3k, hb_3n, hb_3o⟩ := shp_a (W9 x hLx) hkx 15 14 72 rfl (by decide)
  obtain ⟨b_4, hb_4, hb_4L, hb_4k, hb_4n, hb_4o⟩ := shp_a (W9 x hLx) hkx 20 15 13 rfl (by decide)
  have enqx : ∀ I J, NRf R I J x = NRq I J x b_3 b_4 := fun I J => by simp only [NRf, rr_, Option.getD_some, hb_3, hb_4]
  have wnqx : nqw_ L κ ow x b_3 b_4 := ⟨⟨hLx, hb_3L, hb_4L⟩, ⟨(ro_o hkx (by decide)), (ro_a hb_3k (by decide) hb_3o hkx rfl), (ro_a hb_4k (by decide) hb_4o hkx rfl)⟩⟩
  obtain ⟨s_5, hs_5⟩ : ∃ z, NRq I J x b_3 b_4 = z := ⟨_, rfl⟩
  refine g_lo (is := [0, 1, 2]) (lo2 := [(0, .ref x), (1, .int 1), (2, .int 40)]) rfl ?_
  refine g_aload_n C 0 dX12_readNumber_0 rfl rfl ?_
  obtain ⟨x_6, hx_6, rx_6⟩ := ex_getw (I := I) (a := x) (j := 7) (lo := 0) (hi := 4) hU.1 hLx (ro_o hkx (by decide)) rfl
  have f_7 : s_2.kind = x_6 := (congrArg MT_.kind hs_2).symm.trans hx_6
  refine g_getI C K hLx hkx f_12_104 (v := x_6) hx_6 dX12_readNumber_1 ?_
  refine g_iconst C (v := 3) dX12_readNumber_4 (by decide) ?_
  refine g_icmp_eq C (tgt := 14) dX12_readNumber_5 (by decide) (fun h_8 => ?_) (fun h_8 => ?_)
  · skip
    have r_9 := (⟨(eq_rg (h_8) rc_3).1, (eq_rg (h_8) rc_3).2⟩ : Rg 3 3 x_6)
    refine g_aload_n C 0 dX12_readNumber_14 rfl rfl ?_
    obtain ⟨x_10, hx_10, rx_10⟩ := ex_getw (I := I) (a := x) (j := 8) (lo := (-2147483648)) (hi := 2147483647) hU.1 hLx (ro_o hkx (by decide)) rfl
    have f_11 : s_2.number = x_10 := (congrArg MT_.number hs_2).symm.trans hx_10
    refine g_getI C K hLx hkx f_12_121 (v := x_10) hx_10 dX12_readNumber_15 ?_
    refine g_iload_n C 1 dX12_readNumber_18 rfl rfl ?_
    refine g_iload_n C 2 dX12_readNumber_19 rfl rfl ?_
    refine g_callSI C K (c_X12_isIn W9 x_10 1 40 (rg_w rc_1 (by decide) (by decide)) (rg_w rc_40 (by decide) (by decide)) hU) s_12_149 rfl ⟨rfl, rfl⟩ ⟨Nat.le_of_ble_eq_true rfl, Nat.le_of_ble_eq_true rfl⟩ (Nat.le_of_ble_eq_true rfl) ⟨Nat.le_of_ble_eq_true rfl, Nat.le_of_ble_eq_true rfl⟩ dX12_readNumber_20 rfl (st := []) (fun x_12 I_13 J_14 h_15 => ?_)
    obtain ⟨rfl, rfl, rx_12, fx_12, ex_12⟩ := h_15
    have c_16 : isIn_ (x_10) (1) (40) = x_12 := fx_12.symm
    refine g_if_ne C (tgt := 32) dX12_readNumber_23 (by decide) (fun h_17 => ?_) (fun h_17 => ?_)
    · skip
      have n_18 : ¬ x_12 = 0 := h_17
      have r_19 := ne_lo (lo := 1) n_18 rx_12 rc_0 rfl (by decide)
      have r_20 := le_r (((ex_12.1) n_18)) rc_1 rx_10
      have r_21 := le_l (((ex_12.2) n_18)) r_20 rc_40
      refine g_aload_n C 0 dX12_readNumber_32 rfl rfl ?_
      refine g_aload_n C 0 dX12_readNumber_33 rfl rfl ?_
      refine g_getI C K hLx hkx f_12_121 (v := x_10) hx_10 dX12_readNumber_34 ?_
      refine h_putI C K hLx hkx f_12_153 p_12_13 dX12_readNumber_37 (fun I_22 hI_22 => ?_)
      have hU_23 := iw_put W9 hU hI_22 (ro_o hkx (by decide)) (lo := (-2147483648)) (hi := 2147483647) (rfl) (rg_all _) rfl
      have hF_24 := fq_puto hF hI_22 hkx (by decide) (by decide)
      have hs_25 : MTq I_22 J x b_1 = s_2 := by rw [hI_22]; exact (mq_uIt wmqx (by decide)).trans hs_2
      have hs_26 : NRq I_22 J x b_3 b_4 = (NR_.w_told s_5 (x_10)) := by rw [hI_22]; exact ((nq_told wnqx).trans (congrArg (fun z : NR_ => NR_.w_told z (x_10)) hs_5)).trans rfl
      refine g_aload_n C 0 dX12_readNumber_40 rfl rfl ?_
      refine g_callVV C K (c_X12_go W9 hLx hkx   hU_23) hLx hkx (by decide) rfl v_12_156 rfl ⟨rfl, rfl⟩ ⟨Nat.le_of_ble_eq_true rfl, Nat.le_of_ble_eq_true rfl⟩ (Nat.le_of_ble_eq_true rfl) ⟨Nat.le_of_ble_eq_true rfl, Nat.le_of_ble_eq_true rfl⟩ dX12_readNumber_41 rfl (st := []) (fun I_28 J_29 h_30 => ?_)
      obtain ⟨hUI_28, hFI_28, hGJ_29, fx_27, ex_27⟩ := h_30
      have hF_31 := fq_tr hF_24 hFI_28 (by decide)
      have hG_32 := fq_tr hG hGJ_29 (by decide)
      obtain ⟨s_34, hs_34⟩ : ∃ z, MTq I_28 J_29 x b_1 = z := ⟨_, rfl⟩
      have c_33 : mGo (s_2) = s_34 := by have q := fx_27; simp only [emqx, hs_25, hs_34] at q; exact q.symm
      have hs_35 : NRq I_28 J_29 x b_3 b_4 = (NR_.w_told s_5 (x_10)) := (nq_fq wnqx hFI_28 hGJ_29 (by decide) (by decide)).trans hs_26
      refine g_iconst C (v := 1) dX12_readNumber_44 (by decide) ?_
      exact g_zret (ty := .boolean) (r := 1) B K rfl (rfl) ⟨hUI_28, hF_31, hG_32, rg_w rc_1 (by decide) (by decide), (by simp only [mReadNumber, emqx, hs_34, hs_2, enqx, hs_35, hs_5, hx_6, f_7, (eq_true h_8), hx_10, f_11, c_16, h_17, c_33, if_true, if_false, mqM_tp, mqM_size, mqM_limit, mqM_to, mqM_frm, mqM_kind, mqM_number, mqM_sign, mqM_word, MT_.w_tp, MT_.w_size, MT_.w_limit, MT_.w_to, MT_.w_frm, MT_.w_kind, MT_.w_number, MT_.w_sign, MT_.w_word, nqM_rd, nqM_rn, nqM_taped, nqM_mfault, nqM_mplace, nqM_told, nqM_hl, nqM_hd, NR_.w_rd, NR_.w_rn, NR_.w_taped, NR_.w_mfault, NR_.w_mplace, NR_.w_told, NR_.w_hl, NR_.w_hd]), ⟨(pg_s (ps_t2 (pg_u pg_rf hI_22 (Or.inr (by decide)) (Or.inr (by decide))) ex_27)), fun _ => (ps_t2 (pg_u pg_rf hI_22 (Or.inr (by decide)) (Or.inr (by decide))) ex_27)⟩, (fun _ => eq_rg (fq_at hFI_28 hLx hkx (by decide) (by decide) (kp_s hI_22)) (r_21))⟩ dX12_readNumber_45
    · skip
      have r_36 := (⟨(rx_12).1, (eq_rg (h_17) rc_0).2⟩ : Rg 0 0 x_12)
      refine g_aload_n C 0 dX12_readNumber_26 rfl rfl ?_
      refine g_iconst C (v := 2) dX12_readNumber_27 (by decide) ?_
      refine g_callVI C K (c_X12_bad W9 hLx hkx 2 (rg_w rc_2 (by decide) (by decide)) hU) hLx hkx (by decide) rfl v_12_146 rfl ⟨rfl, rfl⟩ ⟨Nat.le_of_ble_eq_true rfl, Nat.le_of_ble_eq_true rfl⟩ (Nat.le_of_ble_eq_true rfl) ⟨Nat.le_of_ble_eq_true rfl, Nat.le_of_ble_eq_true rfl⟩ dX12_readNumber_28 rfl (st := []) (fun x_37 I_38 J_39 h_40 => ?_)
      obtain ⟨hUI_38, hFI_38, hGJ_39, rx_37, fx_37⟩ := h_40
      have hF_41 := fq_tr hF hFI_38 (by decide)
      have hG_42 := fq_tr hG hGJ_39 (by decide)
      obtain ⟨s_44, hs_44⟩ : ∃ z, MTq I_38 J_39 x b_1 = z := ⟨_, rfl⟩
      obtain ⟨s_45, hs_45⟩ : ∃ z, NRq I_38 J_39 x b_3 b_4 = z := ⟨_, rfl⟩
      have c_43 : mBad (2) (s_2) (s_5) = (x_37, s_44, s_45) := by have q := fx_37; simp only [emqx, enqx, hs_2, hs_5, hs_44, hs_45] at q; exact q.symm
      exact g_zret (ty := .boolean) (r := x_37) B K rfl (nar_z (rg_w rx_37 (by decide) (by decide))) ⟨hUI_38, hF_41, hG_42, rg_w rx_37 (by decide) (by decide), (by simp only [mReadNumber, emqx, hs_44, hs_2, enqx, hs_45, hs_5, hx_6, f_7, (eq_true h_8), hx_10, f_11, c_16, (eq_true h_17), c_43, if_true, if_false, mqM_tp, mqM_size, mqM_limit, mqM_to, mqM_frm, mqM_kind, mqM_number, mqM_sign, mqM_word, MT_.w_tp, MT_.w_size, MT_.w_limit, MT_.w_to, MT_.w_frm, MT_.w_kind, MT_.w_number, MT_.w_sign, MT_.w_word, nqM_rd, nqM_rn, nqM_taped, nqM_mfault, nqM_mplace, nqM_told, nqM_hl, nqM_hd, NR_.w_rd, NR_.w_rn, NR_.w_taped, NR_.w_mfault, NR_.w_mplace, NR_.w_told, NR_.w_hl, NR_.w_hd]), ⟨(pg_fq pg_rf hFI_38 hLx hkx (by decide) (by decide)), fun q => ne_no q rx_37 rc_0⟩, (fun q => ne_no q rx_37 rc_0)⟩ dX12_readNumber_31
  · skip
    have n_46 : ¬ x_6 = 3 := h_8
    refine g_aload_n C 0 dX12_readNumber_8 rfl rfl ?_
    refine g_iconst C (v := 1) dX12_readNumber_9 (by decide) ?_
    refine g_callVI C K (c_X12_bad W9 hLx hkx 1 (rg_w rc_1 (by decide) (by decide)) hU) hLx hkx (by decide) rfl v_12_146 rfl ⟨rfl, rfl⟩ ⟨Nat.le_of_ble_eq_true rfl, Nat.le_of_ble_eq_true rfl⟩ (Nat.le_of_ble_eq_true rfl) ⟨Nat.le_of_ble_eq_true rfl, Nat.le_of_ble_eq_true rfl⟩ dX12_readNumber_10 rfl (st := []) (fun x_47 I_48 J_49 h_50 => ?_)
    obtain ⟨hUI_48, hFI_48, hGJ_49, rx_47, fx_47⟩ := h_50
    have hF_51 := fq_tr hF hFI_48 (by decide)
    have hG_52 := fq_tr hG hGJ_49 (by decide)
    obtain ⟨s_54, hs_54⟩ : ∃ z, MTq I_48 J_49 x b_1 = z := ⟨_, rfl⟩
    obtain ⟨s_55, hs_55⟩ : ∃ z, NRq I_48 J_49 x b_3 b_4 = z := ⟨_, rfl⟩
    have c_53 : mBad (1) (s_2) (s_5) = (x_47, s_54, s_55) := by have q := fx_47; simp only [emqx, enqx, hs_2, hs_5, hs_54, hs_55] at q; exact q.symm
    exact g_zret (ty := .boolean) (r := x_47) B K rfl (nar_z (rg_w rx_47 (by decide) (by decide))) ⟨hUI_48, hF_51, hG_52, rg_w rx_47 (by decide) (by decide), (by simp only [mReadNumber, emqx, hs_54, hs_2, enqx, hs_55, hs_5, hx_6, f_7, h_8, c_53, if_true, if_false, mqM_tp, mqM_size, mqM_limit, mqM_to, mqM_frm, mqM_kind, mqM_number, mqM_sign, mqM_word, MT_.w_tp, MT_.w_size, MT_.w_limit, MT_.w_to, MT_.w_frm, MT_.w_kind, MT_.w_number, MT_.w_sign, MT_.w_word, nqM_rd, nqM_rn, nqM_taped, nqM_mfault, nqM_mplace, nqM_told, nqM_hl, nqM_hd, NR_.w_rd, NR_.w_rn, NR_.w_taped, NR_.w_mfault, NR_.w_mplace, NR_.w_told, NR_.w_hl, NR_.w_hd]), ⟨(pg_fq pg_rf hFI_48 hLx hkx (by decide) (by decide)), fun q => ne_no q rx_47 rc_0⟩, (fun q => ne_no q rx_47 rc_0)⟩ dX12_readNumber_13
set_option maxRecDepth 100000 in
set_option maxHeartbeats 8000000 in
theorem c_X12_readPlate {l : Launch} {D : va_G} {cy : Nat → ClassId} {L : List Nat} {κ ln : Nat → Nat} {R : Nat → Nat → Option Nat} {I : Nat → Nat → Int32} {J : Nat → Nat → Int64} {ow : Nat → Nat × Nat} (W9 : ∀ a ∈ L, Shp L κ ln R ow a) {x : Nat} (hLx : x ∈ L) (hkx : κ x = 12) (hU : Iw L κ R ow I) : CtI l yX12_readPlate cX12_readPlate 2 (some .boolean) { frames := 5, cells := 0, slots := 0, locals := 113 } D cy L κ ln R I J [.ref x] (fun r I2 J2 => Iw L κ R ow I2 ∧ Fq L κ ow [1205, 1206, 1207, 1208, 1209, 1210, 1211, 1213, 83500] I I2 ∧ Fq L κ ow [1212] J J2 ∧ Rg 0 1 r ∧ ((r, MTf R I2 J2 x, NRf R I2 J2 x) = mReadPlate (MTf R I J x) (NRf R I J x)) ∧ (Pg_ x I I2 ∧ (¬ r = 0 → Ps_ x I I2))) := by
  refine CtI.of (by decide +kernel) (Nat.le_of_ble_eq_true rfl) ?_
  intro p e s m below meth c B K
  have C := B.1
  have hF : Fq L κ ow [1205, 1206, 1207, 1208, 1209, 1210, 1211, 1213, 83500] I I := fq_rf
  have hG : Fq L κ ow [1212] J J := fq_rf
  obtain ⟨b_1, hb_1, hb_1L, hb_1k, hb_1n, hb_1o⟩ := shp_a (W9 x hLx) hkx 15 14 72 rfl (by decide)
  obtain ⟨b_2, hb_2, hb_2L, hb_2k, hb_2n, hb_2o⟩ := shp_a (W9 x hLx) hkx 1 14 940 rfl (by decide)
  have emqx : ∀ I J, MTf R I J x = MTq I J x b_2 := fun I J => by simp only [MTf, rr_, Option.getD_some, hb_2]
  have wmqx : mqw_ L κ ow x b_2 := ⟨⟨hLx, hb_2L⟩, ⟨(ro_o hkx (by decide)), (ro_a hb_2k (by decide) hb_2o hkx rfl)⟩⟩
  obtain ⟨s_3, hs_3⟩ : ∃ z, MTq I J x b_2 = z := ⟨_, rfl⟩
  obtain ⟨b_4, hb_4, hb_4L, hb_4k, hb_4n, hb_4o⟩ := shp_a (W9 x hLx) hkx 20 15 13 rfl (by decide)
  have enqx : ∀ I J, NRf R I J x = NRq I J x b_1 b_4 := fun I J => by simp only [NRf, rr_, Option.getD_some, hb_1, hb_4]
  have wnqx : nqw_ L κ ow x b_1 b_4 := ⟨⟨hLx, hb_1L, hb_4L⟩, ⟨(ro_o hkx (by decide)), (ro_a hb_1k (by decide) hb_1o hkx rfl), (ro_a hb_4k (by decide) hb_4o hkx rfl)⟩⟩
  obtain ⟨s_5, hs_5⟩ : ∃ z, NRq I J x b_1 b_4 = z := ⟨_, rfl⟩
  refine g_lo (is := [0]) (lo2 := [(0, .ref x)]) rfl ?_
  refine g_aload_n C 0 dX12_readPlate_0 rfl rfl ?_
  refine g_callVV C K (c_X12_go W9 hLx hkx   hU) hLx hkx (by decide) rfl v_12_156 rfl ⟨rfl, rfl⟩ ⟨Nat.le_of_ble_eq_true rfl, Nat.le_of_ble_eq_true rfl⟩ (Nat.le_of_ble_eq_true rfl) ⟨Nat.le_of_ble_eq_true rfl, Nat.le_of_ble_eq_true rfl⟩ dX12_readPlate_1 rfl (st := []) (fun I_7 J_8 h_9 => ?_)
  obtain ⟨hUI_7, hFI_7, hGJ_8, fx_6, ex_6⟩ := h_9
  have hF_10 := fq_tr hF hFI_7 (by decide)
  have hG_11 := fq_tr hG hGJ_8 (by decide)
  obtain ⟨s_13, hs_13⟩ : ∃ z, MTq I_7 J_8 x b_2 = z := ⟨_, rfl⟩
  have c_12 : mGo (s_3) = s_13 := by have q := fx_6; simp only [emqx, hs_3, hs_13] at q; exact q.symm
  have hs_14 : NRq I_7 J_8 x b_1 b_4 = s_5 := (nq_fq wnqx hFI_7 hGJ_8 (by decide) (by decide)).trans hs_5
  refine g_aload_n C 0 dX12_readPlate_4 rfl rfl ?_
  refine g_iconst C (v := 0) dX12_readPlate_5 (by decide) ?_
  refine g_aload_n C 0 dX12_readPlate_6 rfl rfl ?_
  refine g_getR C K hLx hkx f_12_16 hb_1 dX12_readPlate_7 ?_
  refine g_iconst C (v := 0) dX12_readPlate_10 (by decide) ?_
  obtain ⟨x_15, hx_15, rx_15⟩ := ex_getw (I := I_7) (a := b_1) (j := 0) (lo := 0) (hi := 7) hUI_7.1 hb_1L (ro_a hb_1k (by decide) hb_1o hkx rfl) (by decide)
  refine h_iald C K hb_1L hb_1k (v := x_15) (0) (by decide) (by decide) (by rw [hb_1n]; decide) hx_15 dX12_readPlate_11 ?_
  have f_16 : s_5.rd (0) = x_15 := (congrFun (congrArg NR_.rd hs_14) _).symm.trans hx_15
  obtain ⟨x_17, hx_17, rx_17⟩ := ex_getw (I := I_7) (a := x) (j := 13) (lo := (-2147483648)) (hi := 2147483647) hUI_7.1 hLx (ro_o hkx (by decide)) rfl
  have f_18 : s_5.told = x_17 := (congrArg NR_.told hs_14).symm.trans hx_17
  refine g_callVI C K (c_X12_readOne_0 W9 hLx hkx x_15 (rx_15) hUI_7) hLx hkx (by decide) rfl v_12_194 rfl ⟨rfl, rfl⟩ ⟨Nat.le_of_ble_eq_true rfl, Nat.le_of_ble_eq_true rfl⟩ (Nat.le_of_ble_eq_true rfl) ⟨Nat.le_of_ble_eq_true rfl, Nat.le_of_ble_eq_true rfl⟩ dX12_readPlate_12 rfl (st := []) (fun x_19 I_20 J_21 h_22 => ?_)
  obtain ⟨hUI_20, hFI_20, hGJ_21, rx_19, fx_19, ex_19⟩ := h_22
  have hF_23 := fq_tr hF_10 hFI_20 (by decide)
  have hG_24 := fq_tr hG_11 hGJ_21 (by decide)
  obtain ⟨s_26, hs_26⟩ : ∃ z, MTq I_20 J_21 x b_2 = z := ⟨_, rfl⟩
  obtain ⟨s_27, hs_27⟩ : ∃ z, NRq I_20 J_21 x b_1 b_4 = z := ⟨_, rfl⟩
  have c_25 : mReadOne (0) (x_15) (s_13) (s_5) = (x_19, s_26, s_27) := by have q := fx_19; simp only [emqx, enqx, hs_13, hs_14, hs_26, hs_27] at q; exact q.symm
  obtain ⟨x_28, hx_28, rx_28⟩ := ex_getw (I := I_20) (a := x) (j := 13) (lo := (-2147483648)) (hi := 2147483647) hUI_20.1 hLx (ro_o hkx (by decide)) rfl
  have f_29 : s_27.told = x_28 := (congrArg NR_.told hs_27).symm.trans hx_28
  have q_30 := hx_28
  refine g_if_ne C (tgt := 20) dX12_readPlate_15 (by decide) (fun h_31 => ?_) (fun h_31 => ?_)
  · skip
    have n_32 : ¬ x_19 = 0 := h_31
    have r_33 := ne_lo (lo := 1) n_32 rx_19 rc_0 rfl (by decide)
    have r_34 := rg_i rx_28 (eq_rg q_30.symm ((ex_19.2) n_32)) (lo := 0) (hi := 6) (by decide) (by decide)
    refine g_bipush C (v := 30) dX12_readPlate_20 (by decide) ?_
    refine g_bipush C (v := 6) dX12_readPlate_22 (by decide) ?_
    refine g_aload_n C 0 dX12_readPlate_24 rfl rfl ?_
    refine g_getI C K hLx hkx f_12_153 (v := x_28) hx_28 dX12_readPlate_25 ?_
    obtain ⟨x_35, hx_35, rx_35, tx_35⟩ := ex_mulT 0 36 rc_6 r_34 (by decide) (by decide) (by decide) (by decide) (by decide)
    refine g_imul C (v := x_35) dX12_readPlate_28 hx_35 ?_
    obtain ⟨x_36, hx_36, rx_36, tx_36⟩ := ex_add 30 66 rc_30 rx_35 (by decide) (by decide) (by decide) (by decide)
    refine g_iadd C (v := x_36) dX12_readPlate_29 hx_36 ?_
    refine g_istore_n C dX12_readPlate_30 rfl (by decide) (lo2 := [(1, .int x_36), (0, .ref x)]) rfl ?_
    refine g_aload_n C 1 dX12_readPlate_31 rfl rfl ?_
    refine g_bipush C (v := 7) dX12_readPlate_32 (by decide) ?_
    refine g_aload_n C 1 dX12_readPlate_34 rfl rfl ?_
    refine g_getR C K hLx hkx f_12_16 hb_1 dX12_readPlate_35 ?_
    refine g_iconst C (v := 1) dX12_readPlate_38 (by decide) ?_
    obtain ⟨x_37, hx_37, rx_37⟩ := ex_getw (I := I_20) (a := b_1) (j := 1) (lo := 0) (hi := 6) hUI_20.1 hb_1L (ro_a hb_1k (by decide) hb_1o hkx rfl) (by decide)
    refine h_iald C K hb_1L hb_1k (v := x_37) (1) (by decide) (by decide) (by rw [hb_1n]; decide) hx_37 dX12_readPlate_39 ?_
    have f_38 : s_27.rd (1) = x_37 := (congrFun (congrArg NR_.rd hs_27) _).symm.trans hx_37
    refine g_callVI C K (c_X12_isOne_7 W9 hLx hkx x_37 (rx_37) hUI_20) hLx hkx (by decide) rfl v_12_174 rfl ⟨rfl, rfl⟩ ⟨Nat.le_of_ble_eq_true rfl, Nat.le_of_ble_eq_true rfl⟩ (Nat.le_of_ble_eq_true rfl) ⟨Nat.le_of_ble_eq_true rfl, Nat.le_of_ble_eq_true rfl⟩ dX12_readPlate_40 rfl (st := []) (fun x_39 I_40 J_41 h_42 => ?_)
    obtain ⟨hUI_40, hFI_40, hGJ_41, rx_39, fx_39, ex_39⟩ := h_42
    have hF_43 := fq_tr hF_23 hFI_40 (by decide)
    have hG_44 := fq_tr hG_24 hGJ_41 (by decide)
    obtain ⟨s_46, hs_46⟩ : ∃ z, MTq I_40 J_41 x b_2 = z := ⟨_, rfl⟩
    obtain ⟨s_47, hs_47⟩ : ∃ z, NRq I_40 J_41 x b_1 b_4 = z := ⟨_, rfl⟩
    have c_45 : mIsOne (7) (x_37) (s_26) (s_27) = (x_39, s_46, s_47) := by have q := fx_39; simp only [emqx, enqx, hs_26, hs_27, hs_46, hs_47] at q; exact q.symm
    obtain ⟨x_48, hx_48, rx_48⟩ := ex_getw (I := I_40) (a := x) (j := 13) (lo := (-2147483648)) (hi := 2147483647) hUI_40.1 hLx (ro_o hkx (by decide)) rfl
    have f_49 : s_47.told = x_48 := (congrArg NR_.told hs_47).symm.trans hx_48
    have q_50 := hx_48
    refine g_if_ne C (tgt := 48) dX12_readPlate_43 (by decide) (fun h_51 => ?_) (fun h_51 => ?_)
    · skip
      have n_52 : ¬ x_39 = 0 := h_51
      have r_53 := ne_lo (lo := 1) n_52 rx_39 rc_0 rfl (by decide)
      have r_54 := rg_i rx_48 (eq_rg q_50.symm ((ex_39) n_52)) (lo := 0) (hi := 5) (by decide) (by decide)
      refine g_iload_n C 0 dX12_readPlate_48 rfl rfl ?_
      refine g_aload_n C 1 dX12_readPlate_49 rfl rfl ?_
      refine g_getI C K hLx hkx f_12_153 (v := x_48) hx_48 dX12_readPlate_50 ?_
      obtain ⟨x_55, hx_55, rx_55, tx_55⟩ := ex_add 30 71 rx_36 r_54 (by decide) (by decide) (by decide) (by decide)
      refine g_iadd C (v := x_55) dX12_readPlate_53 hx_55 ?_
      refine g_istore_n C dX12_readPlate_54 rfl (by decide) (lo2 := [(1, .int x_55), (0, .ref x)]) rfl ?_
      refine g_aload_n C 1 dX12_readPlate_55 rfl rfl ?_
      refine g_getR C K hLx hkx f_12_16 hb_1 dX12_readPlate_56 ?_
      refine g_iload_n C 0 dX12_readPlate_59 rfl rfl ?_
      obtain ⟨x_56, hx_56, rx_56⟩ := ex_getw (I := I_40) (a := b_1) (j := x_55.toNatClampNeg) (lo := 0) (hi := 40) hUI_40.1 hb_1L (ro_a hb_1k (by decide) hb_1o hkx rfl) (bn_835.trans (zq_30 (ix_k (lo := 30) (hi := 71) rx_55 (by decide) (by decide) (by decide))))
      refine h_iald C K hb_1L hb_1k (v := x_56) (x_55.toNatClampNeg) (rfl) (ix_0 rx_55 (by decide)) (ix_lt rx_55 (by decide) hb_1n (by decide)) hx_56 dX12_readPlate_60 ?_
      have f_57 : s_47.rd (x_55.toNatClampNeg) = x_56 := (congrFun (congrArg NR_.rd hs_47) _).symm.trans hx_56
      refine g_if_le C (tgt := 70) dX12_readPlate_61 (by decide) (fun h_58 => ?_) (fun h_58 => ?_)
      · skip
        have r_59 := le_l (h_58) rx_56 rc_0
        refine g_aload_n C 1 dX12_readPlate_70 rfl rfl ?_
        refine g_callVV C K (c_X12_go W9 hLx hkx   hUI_40) hLx hkx (by decide) rfl v_12_156 rfl ⟨rfl, rfl⟩ ⟨Nat.le_of_ble_eq_true rfl, Nat.le_of_ble_eq_true rfl⟩ (Nat.le_of_ble_eq_true rfl) ⟨Nat.le_of_ble_eq_true rfl, Nat.le_of_ble_eq_true rfl⟩ dX12_readPlate_71 rfl (st := []) (fun I_61 J_62 h_63 => ?_)
        obtain ⟨hUI_61, hFI_61, hGJ_62, fx_60, ex_60⟩ := h_63
        have hF_64 := fq_tr hF_43 hFI_61 (by decide)
        have hG_65 := fq_tr hG_44 hGJ_62 (by decide)
        obtain ⟨s_67, hs_67⟩ : ∃ z, MTq I_61 J_62 x b_2 = z := ⟨_, rfl⟩
        have c_66 : mGo (s_46) = s_67 := by have q := fx_60; simp only [emqx, hs_46, hs_67] at q; exact q.symm
        have hs_68 : NRq I_61 J_62 x b_1 b_4 = s_47 := (nq_fq wnqx hFI_61 hGJ_62 (by decide) (by decide)).trans hs_47
        refine g_aload_n C 1 dX12_readPlate_74 rfl rfl ?_
        refine g_iload_n C 0 dX12_readPlate_75 rfl rfl ?_
        refine g_aload_n C 1 dX12_readPlate_76 rfl rfl ?_
        refine g_iconst C (v := 1) dX12_readPlate_77 (by decide) ?_
        refine g_bipush C (v := 40) dX12_readPlate_78 (by decide) ?_
        refine g_callVI C K (c_X12_readNumber_1_40 W9 hLx hkx   hUI_61) hLx hkx (by decide) rfl v_12_184 rfl ⟨rfl, rfl⟩ ⟨Nat.le_of_ble_eq_true rfl, Nat.le_of_ble_eq_true rfl⟩ (Nat.le_of_ble_eq_true rfl) ⟨Nat.le_of_ble_eq_true rfl, Nat.le_of_ble_eq_true rfl⟩ dX12_readPlate_80 rfl (st := [.int x_55, .ref x]) (fun x_69 I_70 J_71 h_72 => ?_)
        obtain ⟨hUI_70, hFI_70, hGJ_71, rx_69, fx_69, ex_69⟩ := h_72
        have hF_73 := fq_tr hF_64 hFI_70 (by decide)
        have hG_74 := fq_tr hG_65 hGJ_71 (by decide)
        obtain ⟨s_76, hs_76⟩ : ∃ z, MTq I_70 J_71 x b_2 = z := ⟨_, rfl⟩
        obtain ⟨s_77, hs_77⟩ : ∃ z, NRq I_70 J_71 x b_1 b_4 = z := ⟨_, rfl⟩
        have c_75 : mReadNumber (1) (40) (s_67) (s_47) = (x_69, s_76, s_77) := by have q := fx_69; simp only [emqx, enqx, hs_67, hs_68, hs_76, hs_77] at q; exact q.symm
        obtain ⟨x_78, hx_78, rx_78⟩ := ex_getw (I := I_70) (a := x) (j := 13) (lo := (-2147483648)) (hi := 2147483647) hUI_70.1 hLx (ro_o hkx (by decide)) rfl
        have f_79 : s_77.told = x_78 := (congrArg NR_.told hs_77).symm.trans hx_78
        have q_80 := hx_78
        have q_81 := (fq_ar hFI_70 hb_1L (ro_a hb_1k (by decide) hb_1o hkx rfl) (by decide) (by decide) (fq_ar hFI_61 hb_1L (ro_a hb_1k (by decide) hb_1o hkx rfl) (by decide) (by decide) (fq_ar hFI_40 hb_1L (ro_a hb_1k (by decide) hb_1o hkx rfl) (by decide) (by decide) (fq_ar hFI_20 hb_1L (ro_a hb_1k (by decide) hb_1o hkx rfl) (by decide) (by decide) hx_15))))
        have q_82 := (fq_ar hFI_70 hb_1L (ro_a hb_1k (by decide) hb_1o hkx rfl) (by decide) (by decide) (fq_ar hFI_61 hb_1L (ro_a hb_1k (by decide) hb_1o hkx rfl) (by decide) (by decide) (fq_ar hFI_40 hb_1L (ro_a hb_1k (by decide) hb_1o hkx rfl) (by decide) (by decide) hx_37)))
        refine g_callVI C K (c_X12_put_30_71 W9 hLx hkx x_55 x_69 (rx_55) (rx_69) hUI_70  (fun hq => by have n_83 : ¬ x_69 = 0 := hq; have r_84 := ne_lo (lo := 1) n_83 rx_69 rc_0 rfl (by decide); have r_85 := rg_i rx_78 (eq_rg q_80.symm ((ex_69.2) n_83)) (lo := 1) (hi := 40) (by decide) (by decide); exact eq_rg hx_78 (rg_w r_85 (by decide) (by decide)))) hLx hkx (by decide) rfl v_12_187 rfl ⟨rfl, rfl⟩ ⟨Nat.le_of_ble_eq_true rfl, Nat.le_of_ble_eq_true rfl⟩ (Nat.le_of_ble_eq_true rfl) ⟨Nat.le_of_ble_eq_true rfl, Nat.le_of_ble_eq_true rfl⟩ dX12_readPlate_83 rfl (st := []) (fun x_86 I_87 J_88 h_89 => ?_)
        obtain ⟨hUI_87, hFI_87, hGJ_88, rx_86, fx_86, ex_86⟩ := h_89
        have hF_90 := fq_tr hF_73 hFI_87 (by decide)
        have hG_91 := fq_tr hG_74 hGJ_88 (by decide)
        obtain ⟨s_93, hs_93⟩ : ∃ z, NRq I_87 J_88 x b_1 b_4 = z := ⟨_, rfl⟩
        have c_92 : mPut (x_55) (x_69) (s_77) = (x_86, s_93) := by have q := fx_86; simp only [enqx, hs_77, hs_93] at q; exact q.symm
        have hs_94 : MTq I_87 J_88 x b_2 = s_76 := (mq_fq wmqx hFI_87 hGJ_88 (by decide) (by decide)).trans hs_76
        have q_95 := ((ex_86.2 _ hb_1).1).trans q_81
        have q_96 := ((ex_86.2 _ hb_1).2).trans q_82
        exact g_zret (ty := .boolean) (r := x_86) B K rfl (nar_z (rx_86)) ⟨hUI_87, hF_90, hG_91, rx_86, (by simp only [mReadPlate, emqx, hs_94, hs_3, enqx, hs_93, hs_5, c_12, hx_15, f_16, hx_17, f_18, c_25, hx_28, f_29, h_31, hx_35, hx_36, hx_37, f_38, c_45, hx_48, f_49, h_51, hx_55, hx_56, f_57, h_58, c_66, c_75, hx_78, f_79, c_92, if_true, if_false, mqM_tp, mqM_size, mqM_limit, mqM_to, mqM_frm, mqM_kind, mqM_number, mqM_sign, mqM_word, MT_.w_tp, MT_.w_size, MT_.w_limit, MT_.w_to, MT_.w_frm, MT_.w_kind, MT_.w_number, MT_.w_sign, MT_.w_word, nqM_rd, nqM_rn, nqM_taped, nqM_mfault, nqM_mplace, nqM_told, nqM_hl, nqM_hd, NR_.w_rd, NR_.w_rn, NR_.w_taped, NR_.w_mfault, NR_.w_mplace, NR_.w_told, NR_.w_hl, NR_.w_hd]), ⟨(pg_fq (pg_t (pg_s (ps_t2 (pg_fq (pg_t (pg_s (ps_t2 pg_rf ex_6)) ex_19.1.1) hFI_40 hLx hkx (by decide) (by decide)) ex_60)) ex_69.1.1) hFI_87 hLx hkx (by decide) (by decide)), fun hq => by have n_97 : ¬ x_86 = 0 := hq; have r_98 := ne_lo (lo := 1) n_97 rx_86 rc_0 rfl (by decide); have n_99 : ¬ x_69 = 0 := (fun q => n_97 (Eq.trans ex_86.1 q)); have r_100 := ne_lo (lo := 1) n_99 rx_69 rc_0 rfl (by decide); have r_101 := rg_i rx_78 (eq_rg q_80.symm ((ex_69.2) n_99)) (lo := 1) (hi := 40) (by decide) (by decide); exact (ps_fq (ps_t2 (pg_s (ps_t2 (pg_fq (pg_t (pg_s (ps_t2 pg_rf ex_6)) ex_19.1.1) hFI_40 hLx hkx (by decide) (by decide)) ex_60)) (ex_69.1.2 n_99)) hFI_87 hLx hkx (by decide) (by decide))⟩⟩ dX12_readPlate_86
      · skip
        have r_102 := lt_r (lo := 1) (nle h_58) rc_0 rx_56 (by decide)
        refine g_aload_n C 1 dX12_readPlate_64 rfl rfl ?_
        refine g_iconst C (v := 3) dX12_readPlate_65 (by decide) ?_
        refine g_callVI C K (c_X12_bad W9 hLx hkx 3 (rg_w rc_3 (by decide) (by decide)) hUI_40) hLx hkx (by decide) rfl v_12_146 rfl ⟨rfl, rfl⟩ ⟨Nat.le_of_ble_eq_true rfl, Nat.le_of_ble_eq_true rfl⟩ (Nat.le_of_ble_eq_true rfl) ⟨Nat.le_of_ble_eq_true rfl, Nat.le_of_ble_eq_true rfl⟩ dX12_readPlate_66 rfl (st := []) (fun x_103 I_104 J_105 h_106 => ?_)
        obtain ⟨hUI_104, hFI_104, hGJ_105, rx_103, fx_103⟩ := h_106
        have hF_107 := fq_tr hF_43 hFI_104 (by decide)
        have hG_108 := fq_tr hG_44 hGJ_105 (by decide)
        obtain ⟨s_110, hs_110⟩ : ∃ z, MTq I_104 J_105 x b_2 = z := ⟨_, rfl⟩
        obtain ⟨s_111, hs_111⟩ : ∃ z, NRq I_104 J_105 x b_1 b_4 = z := ⟨_, rfl⟩
        have c_109 : mBad (3) (s_46) (s_47) = (x_103, s_110, s_111) := by have q := fx_103; simp only [emqx, enqx, hs_46, hs_47, hs_110, hs_111] at q; exact q.symm
        exact g_zret (ty := .boolean) (r := x_103) B K rfl (nar_z (rg_w rx_103 (by decide) (by decide))) ⟨hUI_104, hF_107, hG_108, rg_w rx_103 (by decide) (by decide), (by simp only [mReadPlate, emqx, hs_110, hs_3, enqx, hs_111, hs_5, c_12, hx_15, f_16, hx_17, f_18, c_25, hx_28, f_29, h_31, hx_35, hx_36, hx_37, f_38, c_45, hx_48, f_49, h_51, hx_55, hx_56, f_57, h_58, (nle h_58), c_109, if_true, if_false, mqM_tp, mqM_size, mqM_limit, mqM_to, mqM_frm, mqM_kind, mqM_number, mqM_sign, mqM_word, MT_.w_tp, MT_.w_size, MT_.w_limit, MT_.w_to, MT_.w_frm, MT_.w_kind, MT_.w_number, MT_.w_sign, MT_.w_word, nqM_rd, nqM_rn, nqM_taped, nqM_mfault, nqM_mplace, nqM_told, nqM_hl, nqM_hd, NR_.w_rd, NR_.w_rn, NR_.w_taped, NR_.w_mfault, NR_.w_mplace, NR_.w_told, NR_.w_hl, NR_.w_hd]), ⟨(pg_fq (pg_fq (pg_t (pg_s (ps_t2 pg_rf ex_6)) ex_19.1.1) hFI_40 hLx hkx (by decide) (by decide)) hFI_104 hLx hkx (by decide) (by decide)), fun q => ne_no q rx_103 rc_0⟩⟩ dX12_readPlate_69
    · skip
      have r_112 := (⟨(rx_39).1, (eq_rg (h_51) rc_0).2⟩ : Rg 0 0 x_39)
      refine g_iconst C (v := 0) dX12_readPlate_46 (by decide) ?_
      exact g_zret (ty := .boolean) (r := 0) B K rfl (rfl) ⟨hUI_40, hF_43, hG_44, rg_w rc_0 (by decide) (by decide), (by simp only [mReadPlate, emqx, hs_46, hs_3, enqx, hs_47, hs_5, c_12, hx_15, f_16, hx_17, f_18, c_25, hx_28, f_29, h_31, hx_35, hx_36, hx_37, f_38, c_45, hx_48, f_49, (eq_true h_51), if_true, if_false, mqM_tp, mqM_size, mqM_limit, mqM_to, mqM_frm, mqM_kind, mqM_number, mqM_sign, mqM_word, MT_.w_tp, MT_.w_size, MT_.w_limit, MT_.w_to, MT_.w_frm, MT_.w_kind, MT_.w_number, MT_.w_sign, MT_.w_word, nqM_rd, nqM_rn, nqM_taped, nqM_mfault, nqM_mplace, nqM_told, nqM_hl, nqM_hd, NR_.w_rd, NR_.w_rn, NR_.w_taped, NR_.w_mfault, NR_.w_mplace, NR_.w_told, NR_.w_hl, NR_.w_hd]), ⟨(pg_fq (pg_t (pg_s (ps_t2 pg_rf ex_6)) ex_19.1.1) hFI_40 hLx hkx (by decide) (by decide)), fun q => absurd rfl q⟩⟩ dX12_readPlate_47
  · skip
    have r_113 := (⟨(rx_19).1, (eq_rg (h_31) rc_0).2⟩ : Rg 0 0 x_19)
    refine g_iconst C (v := 0) dX12_readPlate_18 (by decide) ?_
    exact g_zret (ty := .boolean) (r := 0) B K rfl (rfl) ⟨hUI_20, hF_23, hG_24, rg_w rc_0 (by decide) (by decide), (by simp only [mReadPlate, emqx, hs_26, hs_3, enqx, hs_27, hs_5, c_12, hx_15, f_16, hx_17, f_18, c_25, hx_28, f_29, (eq_true h_31), if_true, if_false, mqM_tp, mqM_size, mqM_limit, mqM_to, mqM_frm, mqM_kind, mqM_number, mqM_sign, mqM_word, MT_.w_tp, MT_.w_size, MT_.w_limit, MT_.w_to, MT_.w_frm, MT_.w_kind, MT_.w_number, MT_.w_sign, MT_.w_word, nqM_rd, nqM_rn, nqM_taped, nqM_mfault, nqM_mplace, nqM_told, nqM_hl, nqM_hd, NR_.w_rd, NR_.w_rn, NR_.w_taped, NR_.w_mfault, NR_.w_mplace, NR_.w_told, NR_.w_hl, NR_.w_hd]), ⟨(pg_t (pg_s (ps_t2 pg_rf ex_6)) ex_19.1.1), fun q => absurd rfl q⟩⟩ dX12_readPlate_19
set_option maxRecDepth 100000 in
set_option maxHeartbeats 8000000 in
theorem c_X12_readLine {l : Launch} {D : va_G} {cy : Nat → ClassId} {L : List Nat} {κ ln : Nat → Nat} {R : Nat → Nat → Option Nat} {I : Nat → Nat → Int32} {J : Nat → Nat → Int64} {ow : Nat → Nat × Nat} (W9 : ∀ a ∈ L, Shp L κ ln R ow a) {x : Nat} (hLx : x ∈ L) (hkx : κ x = 12) (hU : Iw L κ R ow I) : CtI l yX12_readLine cX12_readLine 1 (some .boolean) { frames := 6, cells := 0, slots := 0, locals := 134 } D cy L κ ln R I J [.ref x] (fun r I2 J2 => Iw L κ R ow I2 ∧ Fq L κ ow [1205, 1206, 1207, 1208, 1209, 1210, 1211, 1213, 1224, 1225, 83500] I I2 ∧ Fq L κ ow [1212, 84000] J J2 ∧ Rg 0 1 r ∧ ((r, MTf R I2 J2 x, NRf R I2 J2 x) = mReadLine (MTf R I J x) (NRf R I J x)) ∧ (Pg_ x I I2 ∧ (¬ r = 0 → Ps_ x I I2))) := by
  refine CtI.of (by decide +kernel) (Nat.le_of_ble_eq_true rfl) ?_
  intro p e s m below meth c B K
  have C := B.1
  have hF : Fq L κ ow [1205, 1206, 1207, 1208, 1209, 1210, 1211, 1213, 1224, 1225, 83500] I I := fq_rf
  have hG : Fq L κ ow [1212, 84000] J J := fq_rf
  obtain ⟨b_1, hb_1, hb_1L, hb_1k, hb_1n, hb_1o⟩ := shp_a (W9 x hLx) hkx 1 14 940 rfl (by decide)
  have emqx : ∀ I J, MTf R I J x = MTq I J x b_1 := fun I J => by simp only [MTf, rr_, Option.getD_some, hb_1]
  have wmqx : mqw_ L κ ow x b_1 := ⟨⟨hLx, hb_1L⟩, ⟨(ro_o hkx (by decide)), (ro_a hb_1k (by decide) hb_1o hkx rfl)⟩⟩
  obtain ⟨s_2, hs_2⟩ : ∃ z, MTq I J x b_1 = z := ⟨_, rfl⟩
  obtain ⟨b_3, hb_3, hb_3L, hb_3k, hb_3n, hb_3o⟩ := shp_a (W9 x hLx) hkx 15 14 72 rfl (by decide)
  obtain ⟨b_4, hb_4, hb_4L, hb_4k, hb_4n, hb_4o⟩ := shp_a (W9 x hLx) hkx 20 15 13 rfl (by decide)
  have enqx : ∀ I J, NRf R I J x = NRq I J x b_3 b_4 := fun I J => by simp only [NRf, rr_, Option.getD_some, hb_3, hb_4]
  have wnqx : nqw_ L κ ow x b_3 b_4 := ⟨⟨hLx, hb_3L, hb_4L⟩, ⟨(ro_o hkx (by decide)), (ro_a hb_3k (by decide) hb_3o hkx rfl), (ro_a hb_4k (by decide) hb_4o hkx rfl)⟩⟩
  obtain ⟨s_5, hs_5⟩ : ∃ z, NRq I J x b_3 b_4 = z := ⟨_, rfl⟩
  refine g_lo (is := [0]) (lo2 := [(0, .ref x)]) rfl ?_
  refine g_aload_n C 0 dX12_readLine_0 rfl rfl ?_
  refine g_iconst C (v := 0) dX12_readLine_1 (by decide) ?_
  refine g_callVI C K (c_X12_isWord W9 hLx hkx 0 (rg_w rc_0 (by decide) (by decide)) hU) hLx hkx (by decide) rfl v_12_191 rfl ⟨rfl, rfl⟩ ⟨Nat.le_of_ble_eq_true rfl, Nat.le_of_ble_eq_true rfl⟩ (Nat.le_of_ble_eq_true rfl) ⟨Nat.le_of_ble_eq_true rfl, Nat.le_of_ble_eq_true rfl⟩ dX12_readLine_2 rfl (st := []) (fun x_6 I_7 J_8 h_9 => ?_)
  obtain ⟨rfl, rfl, rx_6, fx_6⟩ := h_9
  have c_10 : mIsWord (0) (s_2) = x_6 := by have q := fx_6; simp only [emqx, hs_2] at q; exact q.symm
  refine g_if_eq C (tgt := 13) dX12_readLine_5 (by decide) (fun h_11 => ?_) (fun h_11 => ?_)
  · skip
    have r_12 := (⟨(rx_6).1, (eq_rg (h_11) rc_0).2⟩ : Rg 0 0 x_6)
    refine g_aload_n C 0 dX12_readLine_13 rfl rfl ?_
    refine g_iconst C (v := 1) dX12_readLine_14 (by decide) ?_
    refine g_callVI C K (c_X12_isWord W9 hLx hkx 1 (rg_w rc_1 (by decide) (by decide)) hU) hLx hkx (by decide) rfl v_12_191 rfl ⟨rfl, rfl⟩ ⟨Nat.le_of_ble_eq_true rfl, Nat.le_of_ble_eq_true rfl⟩ (Nat.le_of_ble_eq_true rfl) ⟨Nat.le_of_ble_eq_true rfl, Nat.le_of_ble_eq_true rfl⟩ dX12_readLine_15 rfl (st := []) (fun x_13 I_14 J_15 h_16 => ?_)
    obtain ⟨rfl, rfl, rx_13, fx_13⟩ := h_16
    have c_17 : mIsWord (1) (s_2) = x_13 := by have q := fx_13; simp only [emqx, hs_2] at q; exact q.symm
    refine g_if_eq C (tgt := 26) dX12_readLine_18 (by decide) (fun h_18 => ?_) (fun h_18 => ?_)
    · skip
      have r_19 := (⟨(rx_13).1, (eq_rg (h_18) rc_0).2⟩ : Rg 0 0 x_13)
      refine g_aload_n C 0 dX12_readLine_26 rfl rfl ?_
      refine g_iconst C (v := 3) dX12_readLine_27 (by decide) ?_
      refine g_callVI C K (c_X12_isWord W9 hLx hkx 3 (rg_w rc_3 (by decide) (by decide)) hU) hLx hkx (by decide) rfl v_12_191 rfl ⟨rfl, rfl⟩ ⟨Nat.le_of_ble_eq_true rfl, Nat.le_of_ble_eq_true rfl⟩ (Nat.le_of_ble_eq_true rfl) ⟨Nat.le_of_ble_eq_true rfl, Nat.le_of_ble_eq_true rfl⟩ dX12_readLine_28 rfl (st := []) (fun x_20 I_21 J_22 h_23 => ?_)
      obtain ⟨rfl, rfl, rx_20, fx_20⟩ := h_23
      have c_24 : mIsWord (3) (s_2) = x_20 := by have q := fx_20; simp only [emqx, hs_2] at q; exact q.symm
      refine g_if_eq C (tgt := 39) dX12_readLine_31 (by decide) (fun h_25 => ?_) (fun h_25 => ?_)
      · skip
        have r_26 := (⟨(rx_20).1, (eq_rg (h_25) rc_0).2⟩ : Rg 0 0 x_20)
        refine g_aload_n C 0 dX12_readLine_39 rfl rfl ?_
        refine g_iconst C (v := 4) dX12_readLine_40 (by decide) ?_
        refine g_callVI C K (c_X12_isWord W9 hLx hkx 4 (rg_w rc_4 (by decide) (by decide)) hU) hLx hkx (by decide) rfl v_12_191 rfl ⟨rfl, rfl⟩ ⟨Nat.le_of_ble_eq_true rfl, Nat.le_of_ble_eq_true rfl⟩ (Nat.le_of_ble_eq_true rfl) ⟨Nat.le_of_ble_eq_true rfl, Nat.le_of_ble_eq_true rfl⟩ dX12_readLine_41 rfl (st := []) (fun x_27 I_28 J_29 h_30 => ?_)
        obtain ⟨rfl, rfl, rx_27, fx_27⟩ := h_30
        have c_31 : mIsWord (4) (s_2) = x_27 := by have q := fx_27; simp only [emqx, hs_2] at q; exact q.symm
        refine g_if_eq C (tgt := 52) dX12_readLine_44 (by decide) (fun h_32 => ?_) (fun h_32 => ?_)
        · skip
          have r_33 := (⟨(rx_27).1, (eq_rg (h_32) rc_0).2⟩ : Rg 0 0 x_27)
          refine g_aload_n C 0 dX12_readLine_52 rfl rfl ?_
          refine g_bipush C (v := 8) dX12_readLine_53 (by decide) ?_
          refine g_callVI C K (c_X12_isWord W9 hLx hkx 8 (rg_w rc_8 (by decide) (by decide)) hU) hLx hkx (by decide) rfl v_12_191 rfl ⟨rfl, rfl⟩ ⟨Nat.le_of_ble_eq_true rfl, Nat.le_of_ble_eq_true rfl⟩ (Nat.le_of_ble_eq_true rfl) ⟨Nat.le_of_ble_eq_true rfl, Nat.le_of_ble_eq_true rfl⟩ dX12_readLine_55 rfl (st := []) (fun x_34 I_35 J_36 h_37 => ?_)
          obtain ⟨rfl, rfl, rx_34, fx_34⟩ := h_37
          have c_38 : mIsWord (8) (s_2) = x_34 := by have q := fx_34; simp only [emqx, hs_2] at q; exact q.symm
          refine g_if_ne C (tgt := 67) dX12_readLine_58 (by decide) (fun h_39 => ?_) (fun h_39 => ?_)
          · skip
            have n_40 : ¬ x_34 = 0 := h_39
            have r_41 := ne_lo (lo := 1) n_40 rx_34 rc_0 rfl (by decide)
            refine g_aload_n C 0 dX12_readLine_67 rfl rfl ?_
            obtain ⟨x_42, hx_42, rx_42⟩ := ex_getw (I := I) (a := x) (j := 25) (lo := 0) (hi := 1) hU.1 hLx (ro_o hkx (by decide)) rfl
            have f_43 : s_5.hd = x_42 := (congrArg NR_.hd hs_5).symm.trans hx_42
            refine g_getI C K hLx hkx f_12_213 (v := x_42) hx_42 dX12_readLine_68 ?_
            refine g_if_eq C (tgt := 80) dX12_readLine_71 (by decide) (fun h_44 => ?_) (fun h_44 => ?_)
            · skip
              have r_45 := (⟨(rx_42).1, (eq_rg (h_44) rc_0).2⟩ : Rg 0 0 x_42)
              refine g_aload_n C 0 dX12_readLine_80 rfl rfl ?_
              refine g_iconst C (v := 1) dX12_readLine_81 (by decide) ?_
              refine h_putZ C K hLx hkx f_12_213 p_12_25 (rg_bool (rg_w rc_1 (by decide) (by decide))) dX12_readLine_82 (fun I_46 hI_46 => ?_)
              have hU_47 := iw_put W9 hU hI_46 (ro_o hkx (by decide)) (lo := 0) (hi := 1) (rfl) (rg_w rc_1 (by decide) (by decide)) rfl
              have hF_48 := fq_puto hF hI_46 hkx (by decide) (by decide)
              have hs_49 : MTq I_46 J x b_1 = s_2 := by rw [hI_46]; exact (mq_uIt wmqx (by decide)).trans hs_2
              have hs_50 : NRq I_46 J x b_3 b_4 = (NR_.w_hd s_5 (1)) := by rw [hI_46]; exact ((nq_hd wnqx).trans (congrArg (fun z : NR_ => NR_.w_hd z (1)) hs_5)).trans rfl
              refine g_aload_n C 0 dX12_readLine_85 rfl rfl ?_
              refine g_callVV C K (c_X12_go W9 hLx hkx   hU_47) hLx hkx (by decide) rfl v_12_156 rfl ⟨rfl, rfl⟩ ⟨Nat.le_of_ble_eq_true rfl, Nat.le_of_ble_eq_true rfl⟩ (Nat.le_of_ble_eq_true rfl) ⟨Nat.le_of_ble_eq_true rfl, Nat.le_of_ble_eq_true rfl⟩ dX12_readLine_86 rfl (st := []) (fun I_52 J_53 h_54 => ?_)
              obtain ⟨hUI_52, hFI_52, hGJ_53, fx_51, ex_51⟩ := h_54
              have hF_55 := fq_tr hF_48 hFI_52 (by decide)
              have hG_56 := fq_tr hG hGJ_53 (by decide)
              obtain ⟨s_58, hs_58⟩ : ∃ z, MTq I_52 J_53 x b_1 = z := ⟨_, rfl⟩
              have c_57 : mGo (s_2) = s_58 := by have q := fx_51; simp only [emqx, hs_49, hs_58] at q; exact q.symm
              have hs_59 : NRq I_52 J_53 x b_3 b_4 = (NR_.w_hd s_5 (1)) := (nq_fq wnqx hFI_52 hGJ_53 (by decide) (by decide)).trans hs_50
              refine g_aload_n C 0 dX12_readLine_89 rfl rfl ?_
              refine g_iconst C (v := 3) dX12_readLine_90 (by decide) ?_
              refine g_aload_n C 0 dX12_readLine_91 rfl rfl ?_
              refine g_iconst C (v := 0) dX12_readLine_92 (by decide) ?_
              refine g_bipush C (v := 9) dX12_readLine_93 (by decide) ?_
              obtain ⟨x_60, hx_60, rx_60⟩ := ex_getw (I := I_52) (a := x) (j := 13) (lo := (-2147483648)) (hi := 2147483647) hUI_52.1 hLx (ro_o hkx (by decide)) rfl
              have f_61 : s_5.told = x_60 := (congrArg NR_.told hs_59).symm.trans hx_60
              refine g_callVI C K (c_X12_readNumber_0_9 W9 hLx hkx   hUI_52) hLx hkx (by decide) rfl v_12_184 rfl ⟨rfl, rfl⟩ ⟨Nat.le_of_ble_eq_true rfl, Nat.le_of_ble_eq_true rfl⟩ (Nat.le_of_ble_eq_true rfl) ⟨Nat.le_of_ble_eq_true rfl, Nat.le_of_ble_eq_true rfl⟩ dX12_readLine_95 rfl (st := [.int 3, .ref x]) (fun x_62 I_63 J_64 h_65 => ?_)
              obtain ⟨hUI_63, hFI_63, hGJ_64, rx_62, fx_62, ex_62⟩ := h_65
              have hF_66 := fq_tr hF_55 hFI_63 (by decide)
              have hG_67 := fq_tr hG_56 hGJ_64 (by decide)
              obtain ⟨s_69, hs_69⟩ : ∃ z, MTq I_63 J_64 x b_1 = z := ⟨_, rfl⟩
              obtain ⟨s_70, hs_70⟩ : ∃ z, NRq I_63 J_64 x b_3 b_4 = z := ⟨_, rfl⟩
              have c_68 : mReadNumber (0) (9) (s_58) ((NR_.w_hd s_5 (1))) = (x_62, s_69, s_70) := by have q := fx_62; simp only [emqx, enqx, hs_58, hs_59, hs_69, hs_70] at q; exact q.symm
              obtain ⟨x_71, hx_71, rx_71⟩ := ex_getw (I := I_63) (a := x) (j := 13) (lo := (-2147483648)) (hi := 2147483647) hUI_63.1 hLx (ro_o hkx (by decide)) rfl
              have f_72 : s_70.told = x_71 := (congrArg NR_.told hs_70).symm.trans hx_71
              have q_73 := hx_71
              refine g_callVI C K (c_X12_put_3_3 W9 hLx hkx 3 x_62 (rc_3) (rx_62) hUI_63  (fun hq => by have n_74 : ¬ x_62 = 0 := hq; have r_75 := ne_lo (lo := 1) n_74 rx_62 rc_0 rfl (by decide); have r_76 := rg_i rx_71 (eq_rg q_73.symm ((ex_62.2) n_74)) (lo := 0) (hi := 9) (by decide) (by decide); exact eq_rg hx_71 (r_76))) hLx hkx (by decide) rfl v_12_187 rfl ⟨rfl, rfl⟩ ⟨Nat.le_of_ble_eq_true rfl, Nat.le_of_ble_eq_true rfl⟩ (Nat.le_of_ble_eq_true rfl) ⟨Nat.le_of_ble_eq_true rfl, Nat.le_of_ble_eq_true rfl⟩ dX12_readLine_98 rfl (st := []) (fun x_77 I_78 J_79 h_80 => ?_)
              obtain ⟨hUI_78, hFI_78, hGJ_79, rx_77, fx_77, ex_77⟩ := h_80
              have hF_81 := fq_tr hF_66 hFI_78 (by decide)
              have hG_82 := fq_tr hG_67 hGJ_79 (by decide)
              obtain ⟨s_84, hs_84⟩ : ∃ z, NRq I_78 J_79 x b_3 b_4 = z := ⟨_, rfl⟩
              have c_83 : mPut (3) (x_62) (s_70) = (x_77, s_84) := by have q := fx_77; simp only [enqx, hs_70, hs_84] at q; exact q.symm
              have hs_85 : MTq I_78 J_79 x b_1 = s_69 := (mq_fq wmqx hFI_78 hGJ_79 (by decide) (by decide)).trans hs_69
              exact g_zret (ty := .boolean) (r := x_77) B K rfl (nar_z (rx_77)) ⟨hUI_78, hF_81, hG_82, rx_77, (by (try simp only [c_10, (eq_true h_11), c_17, (eq_true h_18), c_24, (eq_true h_25), c_31, (eq_true h_32), c_38, h_39, hx_42, f_43, (eq_true h_44), c_57, hx_60, f_61, hx_71, f_72, c_83, if_true, if_false, mqM_tp, mqM_size, mqM_limit, mqM_to, mqM_frm, mqM_kind, mqM_number, mqM_sign, mqM_word, MT_.w_tp, MT_.w_size, MT_.w_limit, MT_.w_to, MT_.w_frm, MT_.w_kind, MT_.w_number, MT_.w_sign, MT_.w_word, nqM_rd, nqM_rn, nqM_taped, nqM_mfault, nqM_mplace, nqM_told, nqM_hl, nqM_hd, NR_.w_rd, NR_.w_rn, NR_.w_taped, NR_.w_mfault, NR_.w_mplace, NR_.w_told, NR_.w_hl, NR_.w_hd] at c_68); simp only [mReadLine, mReadDogs, emqx, hs_85, hs_2, enqx, hs_84, hs_5, c_10, (eq_true h_11), c_17, (eq_true h_18), c_24, (eq_true h_25), c_31, (eq_true h_32), c_38, h_39, hx_42, f_43, (eq_true h_44), c_57, hx_60, f_61, c_68, hx_71, f_72, c_83, if_true, if_false, mqM_tp, mqM_size, mqM_limit, mqM_to, mqM_frm, mqM_kind, mqM_number, mqM_sign, mqM_word, MT_.w_tp, MT_.w_size, MT_.w_limit, MT_.w_to, MT_.w_frm, MT_.w_kind, MT_.w_number, MT_.w_sign, MT_.w_word, nqM_rd, nqM_rn, nqM_taped, nqM_mfault, nqM_mplace, nqM_told, nqM_hl, nqM_hd, NR_.w_rd, NR_.w_rn, NR_.w_taped, NR_.w_mfault, NR_.w_mplace, NR_.w_told, NR_.w_hl, NR_.w_hd]), ⟨(pg_fq (pg_t (pg_s (ps_t2 (pg_u pg_rf hI_46 (Or.inr (by decide)) (Or.inr (by decide))) ex_51)) ex_62.1.1) hFI_78 hLx hkx (by decide) (by decide)), fun hq => by have n_86 : ¬ x_77 = 0 := hq; have r_87 := ne_lo (lo := 1) n_86 rx_77 rc_0 rfl (by decide); have n_88 : ¬ x_62 = 0 := (fun q => n_86 (Eq.trans ex_77.1 q)); have r_89 := ne_lo (lo := 1) n_88 rx_62 rc_0 rfl (by decide); have r_90 := rg_i rx_71 (eq_rg q_73.symm ((ex_62.2) n_88)) (lo := 0) (hi := 9) (by decide) (by decide); exact (ps_fq (ps_t2 (pg_s (ps_t2 (pg_u pg_rf hI_46 (Or.inr (by decide)) (Or.inr (by decide))) ex_51)) (ex_62.1.2 n_88)) hFI_78 hLx hkx (by decide) (by decide))⟩⟩ dX12_readLine_101
            · skip
              have n_91 : ¬ x_42 = 0 := h_44
              have r_92 := ne_lo (lo := 1) n_91 rx_42 rc_0 rfl (by decide)
              refine g_aload_n C 0 dX12_readLine_74 rfl rfl ?_
              refine g_iconst C (v := 3) dX12_readLine_75 (by decide) ?_
              refine g_callVI C K (c_X12_bad W9 hLx hkx 3 (rg_w rc_3 (by decide) (by decide)) hU) hLx hkx (by decide) rfl v_12_146 rfl ⟨rfl, rfl⟩ ⟨Nat.le_of_ble_eq_true rfl, Nat.le_of_ble_eq_true rfl⟩ (Nat.le_of_ble_eq_true rfl) ⟨Nat.le_of_ble_eq_true rfl, Nat.le_of_ble_eq_true rfl⟩ dX12_readLine_76 rfl (st := []) (fun x_93 I_94 J_95 h_96 => ?_)
              obtain ⟨hUI_94, hFI_94, hGJ_95, rx_93, fx_93⟩ := h_96
              have hF_97 := fq_tr hF hFI_94 (by decide)
              have hG_98 := fq_tr hG hGJ_95 (by decide)
              obtain ⟨s_100, hs_100⟩ : ∃ z, MTq I_94 J_95 x b_1 = z := ⟨_, rfl⟩
              obtain ⟨s_101, hs_101⟩ : ∃ z, NRq I_94 J_95 x b_3 b_4 = z := ⟨_, rfl⟩
              have c_99 : mBad (3) (s_2) (s_5) = (x_93, s_100, s_101) := by have q := fx_93; simp only [emqx, enqx, hs_2, hs_5, hs_100, hs_101] at q; exact q.symm
              exact g_zret (ty := .boolean) (r := x_93) B K rfl (nar_z (rg_w rx_93 (by decide) (by decide))) ⟨hUI_94, hF_97, hG_98, rg_w rx_93 (by decide) (by decide), (by simp only [mReadLine, mReadDogs, emqx, hs_100, hs_2, enqx, hs_101, hs_5, c_10, (eq_true h_11), c_17, (eq_true h_18), c_24, (eq_true h_25), c_31, (eq_true h_32), c_38, h_39, hx_42, f_43, h_44, c_99, if_true, if_false, mqM_tp, mqM_size, mqM_limit, mqM_to, mqM_frm, mqM_kind, mqM_number, mqM_sign, mqM_word, MT_.w_tp, MT_.w_size, MT_.w_limit, MT_.w_to, MT_.w_frm, MT_.w_kind, MT_.w_number, MT_.w_sign, MT_.w_word, nqM_rd, nqM_rn, nqM_taped, nqM_mfault, nqM_mplace, nqM_told, nqM_hl, nqM_hd, NR_.w_rd, NR_.w_rn, NR_.w_taped, NR_.w_mfault, NR_.w_mplace, NR_.w_told, NR_.w_hl, NR_.w_hd]), ⟨(pg_fq pg_rf hFI_94 hLx hkx (by decide) (by decide)), fun q => ne_no q rx_93 rc_0⟩⟩ dX12_readLine_79
          · skip
            have r_102 := (⟨(rx_34).1, (eq_rg (h_39) rc_0).2⟩ : Rg 0 0 x_34)
            refine g_aload_n C 0 dX12_readLine_61 rfl rfl ?_
            refine g_iconst C (v := 1) dX12_readLine_62 (by decide) ?_
            refine g_callVI C K (c_X12_bad W9 hLx hkx 1 (rg_w rc_1 (by decide) (by decide)) hU) hLx hkx (by decide) rfl v_12_146 rfl ⟨rfl, rfl⟩ ⟨Nat.le_of_ble_eq_true rfl, Nat.le_of_ble_eq_true rfl⟩ (Nat.le_of_ble_eq_true rfl) ⟨Nat.le_of_ble_eq_true rfl, Nat.le_of_ble_eq_true rfl⟩ dX12_readLine_63 rfl (st := []) (fun x_103 I_104 J_105 h_106 => ?_)
            obtain ⟨hUI_104, hFI_104, hGJ_105, rx_103, fx_103⟩ := h_106
            have hF_107 := fq_tr hF hFI_104 (by decide)
            have hG_108 := fq_tr hG hGJ_105 (by decide)
            obtain ⟨s_110, hs_110⟩ : ∃ z, MTq I_104 J_105 x b_1 = z := ⟨_, rfl⟩
            obtain ⟨s_111, hs_111⟩ : ∃ z, NRq I_104 J_105 x b_3 b_4 = z := ⟨_, rfl⟩
            have c_109 : mBad (1) (s_2) (s_5) = (x_103, s_110, s_111) := by have q := fx_103; simp only [emqx, enqx, hs_2, hs_5, hs_110, hs_111] at q; exact q.symm
            exact g_zret (ty := .boolean) (r := x_103) B K rfl (nar_z (rg_w rx_103 (by decide) (by decide))) ⟨hUI_104, hF_107, hG_108, rg_w rx_103 (by decide) (by decide), (by simp only [mReadLine, mReadDogs, emqx, hs_110, hs_2, enqx, hs_111, hs_5, c_10, (eq_true h_11), c_17, (eq_true h_18), c_24, (eq_true h_25), c_31, (eq_true h_32), c_38, (eq_true h_39), c_109, if_true, if_false, mqM_tp, mqM_size, mqM_limit, mqM_to, mqM_frm, mqM_kind, mqM_number, mqM_sign, mqM_word, MT_.w_tp, MT_.w_size, MT_.w_limit, MT_.w_to, MT_.w_frm, MT_.w_kind, MT_.w_number, MT_.w_sign, MT_.w_word, nqM_rd, nqM_rn, nqM_taped, nqM_mfault, nqM_mplace, nqM_told, nqM_hl, nqM_hd, NR_.w_rd, NR_.w_rn, NR_.w_taped, NR_.w_mfault, NR_.w_mplace, NR_.w_told, NR_.w_hl, NR_.w_hd]), ⟨(pg_fq pg_rf hFI_104 hLx hkx (by decide) (by decide)), fun q => ne_no q rx_103 rc_0⟩⟩ dX12_readLine_66
        · skip
          have n_112 : ¬ x_27 = 0 := h_32
          have r_113 := ne_lo (lo := 1) n_112 rx_27 rc_0 rfl (by decide)
          refine g_aload_n C 0 dX12_readLine_47 rfl rfl ?_
          refine g_callVI C K (c_X12_readLaw W9 hLx hkx   hU) hLx hkx (by decide) rfl v_12_210 rfl ⟨rfl, rfl⟩ ⟨Nat.le_of_ble_eq_true rfl, Nat.le_of_ble_eq_true rfl⟩ (Nat.le_of_ble_eq_true rfl) ⟨Nat.le_of_ble_eq_true rfl, Nat.le_of_ble_eq_true rfl⟩ dX12_readLine_48 rfl (st := []) (fun x_114 I_115 J_116 h_117 => ?_)
          obtain ⟨hUI_115, hFI_115, hGJ_116, rx_114, fx_114, ex_114⟩ := h_117
          have hF_118 := fq_tr hF hFI_115 (by decide)
          have hG_119 := fq_tr hG hGJ_116 (by decide)
          obtain ⟨s_121, hs_121⟩ : ∃ z, MTq I_115 J_116 x b_1 = z := ⟨_, rfl⟩
          obtain ⟨s_122, hs_122⟩ : ∃ z, NRq I_115 J_116 x b_3 b_4 = z := ⟨_, rfl⟩
          have c_120 : mReadLaw (s_2) (s_5) = (x_114, s_121, s_122) := by have q := fx_114; simp only [emqx, enqx, hs_2, hs_5, hs_121, hs_122] at q; exact q.symm
          exact g_zret (ty := .boolean) (r := x_114) B K rfl (nar_z (rx_114)) ⟨hUI_115, hF_118, hG_119, rx_114, (by simp only [mReadLine, mReadDogs, emqx, hs_121, hs_2, enqx, hs_122, hs_5, c_10, (eq_true h_11), c_17, (eq_true h_18), c_24, (eq_true h_25), c_31, h_32, c_120, if_true, if_false, mqM_tp, mqM_size, mqM_limit, mqM_to, mqM_frm, mqM_kind, mqM_number, mqM_sign, mqM_word, MT_.w_tp, MT_.w_size, MT_.w_limit, MT_.w_to, MT_.w_frm, MT_.w_kind, MT_.w_number, MT_.w_sign, MT_.w_word, nqM_rd, nqM_rn, nqM_taped, nqM_mfault, nqM_mplace, nqM_told, nqM_hl, nqM_hd, NR_.w_rd, NR_.w_rn, NR_.w_taped, NR_.w_mfault, NR_.w_mplace, NR_.w_told, NR_.w_hl, NR_.w_hd]), ⟨(pg_t pg_rf ex_114.1), fun hq => by have n_123 : ¬ x_114 = 0 := hq; have r_124 := ne_lo (lo := 1) n_123 rx_114 rc_0 rfl (by decide); exact (ps_t2 pg_rf (ex_114.2 n_123))⟩⟩ dX12_readLine_51
      · skip
        have n_125 : ¬ x_20 = 0 := h_25
        have r_126 := ne_lo (lo := 1) n_125 rx_20 rc_0 rfl (by decide)
        refine g_aload_n C 0 dX12_readLine_34 rfl rfl ?_
        refine g_callVI C K (c_X12_readPlate W9 hLx hkx   hU) hLx hkx (by decide) rfl v_12_207 rfl ⟨rfl, rfl⟩ ⟨Nat.le_of_ble_eq_true rfl, Nat.le_of_ble_eq_true rfl⟩ (Nat.le_of_ble_eq_true rfl) ⟨Nat.le_of_ble_eq_true rfl, Nat.le_of_ble_eq_true rfl⟩ dX12_readLine_35 rfl (st := []) (fun x_127 I_128 J_129 h_130 => ?_)
        obtain ⟨hUI_128, hFI_128, hGJ_129, rx_127, fx_127, ex_127⟩ := h_130
        have hF_131 := fq_tr hF hFI_128 (by decide)
        have hG_132 := fq_tr hG hGJ_129 (by decide)
        obtain ⟨s_134, hs_134⟩ : ∃ z, MTq I_128 J_129 x b_1 = z := ⟨_, rfl⟩
        obtain ⟨s_135, hs_135⟩ : ∃ z, NRq I_128 J_129 x b_3 b_4 = z := ⟨_, rfl⟩
        have c_133 : mReadPlate (s_2) (s_5) = (x_127, s_134, s_135) := by have q := fx_127; simp only [emqx, enqx, hs_2, hs_5, hs_134, hs_135] at q; exact q.symm
        exact g_zret (ty := .boolean) (r := x_127) B K rfl (nar_z (rx_127)) ⟨hUI_128, hF_131, hG_132, rx_127, (by simp only [mReadLine, mReadDogs, emqx, hs_134, hs_2, enqx, hs_135, hs_5, c_10, (eq_true h_11), c_17, (eq_true h_18), c_24, h_25, c_133, if_true, if_false, mqM_tp, mqM_size, mqM_limit, mqM_to, mqM_frm, mqM_kind, mqM_number, mqM_sign, mqM_word, MT_.w_tp, MT_.w_size, MT_.w_limit, MT_.w_to, MT_.w_frm, MT_.w_kind, MT_.w_number, MT_.w_sign, MT_.w_word, nqM_rd, nqM_rn, nqM_taped, nqM_mfault, nqM_mplace, nqM_told, nqM_hl, nqM_hd, NR_.w_rd, NR_.w_rn, NR_.w_taped, NR_.w_mfault, NR_.w_mplace, NR_.w_told, NR_.w_hl, NR_.w_hd]), ⟨(pg_t pg_rf ex_127.1), fun hq => by have n_136 : ¬ x_127 = 0 := hq; have r_137 := ne_lo (lo := 1) n_136 rx_127 rc_0 rfl (by decide); exact (ps_t2 pg_rf (ex_127.2 n_136))⟩⟩ dX12_readLine_38
    · skip
      have n_138 : ¬ x_13 = 0 := h_18
      have r_139 := ne_lo (lo := 1) n_138 rx_13 rc_0 rfl (by decide)
      refine g_aload_n C 0 dX12_readLine_21 rfl rfl ?_
      refine g_callVI C K (c_X12_readDish W9 hLx hkx   hU) hLx hkx (by decide) rfl v_12_204 rfl ⟨rfl, rfl⟩ ⟨Nat.le_of_ble_eq_true rfl, Nat.le_of_ble_eq_true rfl⟩ (Nat.le_of_ble_eq_true rfl) ⟨Nat.le_of_ble_eq_true rfl, Nat.le_of_ble_eq_true rfl⟩ dX12_readLine_22 rfl (st := []) (fun x_140 I_141 J_142 h_143 => ?_)
      obtain ⟨hUI_141, hFI_141, hGJ_142, rx_140, fx_140, ex_140⟩ := h_143
      have hF_144 := fq_tr hF hFI_141 (by decide)
      have hG_145 := fq_tr hG hGJ_142 (by decide)
      obtain ⟨s_147, hs_147⟩ : ∃ z, MTq I_141 J_142 x b_1 = z := ⟨_, rfl⟩
      obtain ⟨s_148, hs_148⟩ : ∃ z, NRq I_141 J_142 x b_3 b_4 = z := ⟨_, rfl⟩
      have c_146 : mReadDish (s_2) (s_5) = (x_140, s_147, s_148) := by have q := fx_140; simp only [emqx, enqx, hs_2, hs_5, hs_147, hs_148] at q; exact q.symm
      exact g_zret (ty := .boolean) (r := x_140) B K rfl (nar_z (rx_140)) ⟨hUI_141, hF_144, hG_145, rx_140, (by simp only [mReadLine, mReadDogs, emqx, hs_147, hs_2, enqx, hs_148, hs_5, c_10, (eq_true h_11), c_17, h_18, c_146, if_true, if_false, mqM_tp, mqM_size, mqM_limit, mqM_to, mqM_frm, mqM_kind, mqM_number, mqM_sign, mqM_word, MT_.w_tp, MT_.w_size, MT_.w_limit, MT_.w_to, MT_.w_frm, MT_.w_kind, MT_.w_number, MT_.w_sign, MT_.w_word, nqM_rd, nqM_rn, nqM_taped, nqM_mfault, nqM_mplace, nqM_told, nqM_hl, nqM_hd, NR_.w_rd, NR_.w_rn, NR_.w_taped, NR_.w_mfault, NR_.w_mplace, NR_.w_told, NR_.w_hl, NR_.w_hd]), ⟨(pg_t pg_rf ex_140.1), fun hq => by have n_149 : ¬ x_140 = 0 := hq; have r_150 := ne_lo (lo := 1) n_149 rx_140 rc_0 rfl (by decide); exact (ps_t2 pg_rf (ex_140.2 n_149))⟩⟩ dX12_readLine_25
  · skip
    have n_151 : ¬ x_6 = 0 := h_11
    have r_152 := ne_lo (lo := 1) n_151 rx_6 rc_0 rfl (by decide)
    refine g_aload_n C 0 dX12_readLine_8 rfl rfl ?_
    refine g_callVI C K (c_X12_readPerson W9 hLx hkx   hU) hLx hkx (by decide) rfl v_12_201 rfl ⟨rfl, rfl⟩ ⟨Nat.le_of_ble_eq_true rfl, Nat.le_of_ble_eq_true rfl⟩ (Nat.le_of_ble_eq_true rfl) ⟨Nat.le_of_ble_eq_true rfl, Nat.le_of_ble_eq_true rfl⟩ dX12_readLine_9 rfl (st := []) (fun x_153 I_154 J_155 h_156 => ?_)
    obtain ⟨hUI_154, hFI_154, hGJ_155, rx_153, fx_153, ex_153⟩ := h_156
    have hF_157 := fq_tr hF hFI_154 (by decide)
    have hG_158 := fq_tr hG hGJ_155 (by decide)
    obtain ⟨s_160, hs_160⟩ : ∃ z, MTq I_154 J_155 x b_1 = z := ⟨_, rfl⟩
    obtain ⟨s_161, hs_161⟩ : ∃ z, NRq I_154 J_155 x b_3 b_4 = z := ⟨_, rfl⟩
    have c_159 : mReadPerson (s_2) (s_5) = (x_153, s_160, s_161) := by have q := fx_153; simp only [emqx, enqx, hs_2, hs_5, hs_160, hs_161] at q; exact q.symm
    exact g_zret (ty := .boolean) (r := x_153) B K rfl (nar_z (rx_153)) ⟨hUI_154, hF_157, hG_158, rx_153, (by simp only [mReadLine, mReadDogs, emqx, hs_160, hs_2, enqx, hs_161, hs_5, c_10, h_11, c_159, if_true, if_false, mqM_tp, mqM_size, mqM_limit, mqM_to, mqM_frm, mqM_kind, mqM_number, mqM_sign, mqM_word, MT_.w_tp, MT_.w_size, MT_.w_limit, MT_.w_to, MT_.w_frm, MT_.w_kind, MT_.w_number, MT_.w_sign, MT_.w_word, nqM_rd, nqM_rn, nqM_taped, nqM_mfault, nqM_mplace, nqM_told, nqM_hl, nqM_hd, NR_.w_rd, NR_.w_rn, NR_.w_taped, NR_.w_mfault, NR_.w_mplace, NR_.w_told, NR_.w_hl, NR_.w_hd]), ⟨(pg_t pg_rf ex_153.1), fun hq => by have n_162 : ¬ x_153 = 0 := hq; have r_163 := ne_lo (lo := 1) n_162 rx_153 rc_0 rfl (by decide); exact (ps_t2 pg_rf (ex_153.2 n_162))⟩⟩ dX12_readLine_12
set_option maxRecDepth 100000 in
set_option maxHeartbeats 8000000 in
theorem c_X12_startSo {l : Launch} {D : va_G} {cy : Nat → ClassId} {L : List Nat} {κ ln : Nat → Nat} {R : Nat → Nat → Option Nat} {I : Nat → Nat → Int32} {J : Nat → Nat → Int64} {ow : Nat → Nat × Nat} (W9 : ∀ a ∈ L, Shp L κ ln R ow a) {x : Nat} (hLx : x ∈ L) (hkx : κ x = 12) (hU : Iw1 L κ R ow I) : CtV l yX12_startSo cX12_startSo 2 none { frames := 0, cells := 0, slots := 0, locals := 0 } D cy L κ ln R I J [.ref x] (fun I2 J2 => Iw0 L κ R ow I2 ∧ Fq L κ ow [83400] I I2 ∧ Fq L κ ow [] J J2 ∧ (Hd_ R x I I2)) := by
  refine CtV.of (by decide +kernel) (Nat.le_of_ble_eq_true rfl) ?_
  intro p e s m below meth c B K
  have C := B.1
  have hF : Fq L κ ow [83400] I I := fq_rf
  have hG : Fq L κ ow [] J J := fq_rf
  obtain ⟨b_1, hb_1, hb_1L, hb_1k, hb_1n, hb_1o⟩ := shp_a (W9 x hLx) hkx 14 14 389 rfl (by decide)
  refine g_lo (is := [0]) (lo2 := [(0, .ref x)]) rfl ?_
  refine g_bipush C (v := 72) dX12_startSo_0 (by decide) ?_
  refine g_istore_n C dX12_startSo_2 rfl (by decide) (lo2 := [(1, .int 72), (0, .ref x)]) rfl ?_
  refine g_lo (is := [1, 0]) (lo2 := [(0, .ref x), (1, .int 72)]) rfl ?_
  have ex_3 : ∀ (I_3 : Nat → Nat → Int32) (hI_3 : I_3 = fil_ I b_1 (72) 317) (v_2 : Int32) (rv_2 : Rg 389 389 v_2), WG p l e { frames := 0, cells := 0, slots := 0, locals := 0 } s m ([.ref x] : List Value).toArray below meth c 2 0 0 (MQ below (Qv_ D cy L κ ln R (fun I2 J2 => Iw0 L κ R ow I2 ∧ Fq L κ ow [83400] I I2 ∧ Fq L κ ow [] J J2 ∧ (Hd_ R x I I2))) ([.ref x] : List Value).toArray s 0 0 (Al_ L)) D cy (Al_ L) s.heap L κ ln R I_3 J 23 [(0, .ref x), (1, .int v_2)] [] := by
    intro I_3 hI_3 v_2 rv_2
    have hF_4 := fq_fil hF hI_3 (ro_a hb_1k (by decide) hb_1o hkx rfl) (by decide) (by decide)
    have hU_5 := uw_fil hU.1 hI_3 (ro_a hb_1k (by decide) hb_1o hkx rfl)
    refine g_iconst C (v := 0) dX12_startSo_23 (by decide) ?_
    refine g_istore_n C dX12_startSo_24 rfl (by decide) (lo2 := [(1, .int 0), (0, .ref x)]) rfl ?_
    refine g_lo (is := [1, 0]) (lo2 := [(0, .ref x), (1, .int 0)]) rfl ?_
    have ex_25 : ∀ (I_7 : Nat → Nat → Int32) (hI_7 : I_7 = cpn_ I_3 b_1 b_1 (18) (78) 6) (v_6 : Int32) (rv_6 : Rg 6 6 v_6), WG p l e { frames := 0, cells := 0, slots := 0, locals := 0 } s m ([.ref x] : List Value).toArray below meth c 2 0 0 (MQ below (Qv_ D cy L κ ln R (fun I2 J2 => Iw0 L κ R ow I2 ∧ Fq L κ ow [83400] I I2 ∧ Fq L κ ow [] J J2 ∧ (Hd_ R x I I2))) ([.ref x] : List Value).toArray s 0 0 (Al_ L)) D cy (Al_ L) s.heap L κ ln R I_7 J 55 [(0, .ref x), (1, .int v_6)] [] := by
      intro I_7 hI_7 v_6 rv_6
      have hF_8 := fq_cpn hF_4 hI_7 (ro_a hb_1k (by decide) hb_1o hkx rfl) (by decide) (by decide)
      have hU_9 := uw_cpn hU_5 hb_1L hI_7 (ro_a hb_1k (by decide) hb_1o hkx rfl) (ro_a hb_1k (by decide) hb_1o hkx rfl) (fun i hi => by rw [bn_834, bn_834, zq_78 (by omega), zq_18 (by omega)]; decide)
      refine g_iconst C (v := 0) dX12_startSo_55 (by decide) ?_
      refine g_istore_n C dX12_startSo_56 rfl (by decide) (lo2 := [(1, .int 0), (0, .ref x)]) rfl ?_
      refine g_lo (is := [1, 0]) (lo2 := [(0, .ref x), (1, .int 0)]) rfl ?_
      have ex_57 : ∀ (I_11 : Nat → Nat → Int32) (hI_11 : I_11 = cpn_ I_7 b_1 b_1 (30) (105) 42) (v_10 : Int32) (rv_10 : Rg 42 42 v_10), WG p l e { frames := 0, cells := 0, slots := 0, locals := 0 } s m ([.ref x] : List Value).toArray below meth c 2 0 0 (MQ below (Qv_ D cy L κ ln R (fun I2 J2 => Iw0 L κ R ow I2 ∧ Fq L κ ow [83400] I I2 ∧ Fq L κ ow [] J J2 ∧ (Hd_ R x I I2))) ([.ref x] : List Value).toArray s 0 0 (Al_ L)) D cy (Al_ L) s.heap L κ ln R I_11 J 87 [(0, .ref x), (1, .int v_10)] [] := by
        intro I_11 hI_11 v_10 rv_10
        have hF_12 := fq_cpn hF_8 hI_11 (ro_a hb_1k (by decide) hb_1o hkx rfl) (by decide) (by decide)
        have hU_13 := uw_cpn hU_9 hb_1L hI_11 (ro_a hb_1k (by decide) hb_1o hkx rfl) (ro_a hb_1k (by decide) hb_1o hkx rfl) (fun i hi => by rw [bn_834, bn_834, zq_105 (by omega), zq_30 (by omega)]; decide)
        have hU_14 := iw_st W9 hU hU_13 hLx hkx hb_1 hI_3 hI_7 hI_11
        exact g_vret B K rfl ⟨hU_14, hF_12, hG, (hd_so hb_1 hI_3 hI_7 hI_11)⟩ dX12_startSo_87
      have l_57 : ∀ (m_57 : Nat) (v_15 : Int32) (I_16 : Nat → Nat → Int32), v_15.toInt + (m_57 : Int) = 42 → 0 ≤ v_15.toInt → I_16 = cpn_ I_7 b_1 b_1 (30) (105) v_15.toNatClampNeg → WG p l e { frames := 0, cells := 0, slots := 0, locals := 0 } s m ([.ref x] : List Value).toArray below meth c 2 0 0 (MQ below (Qv_ D cy L κ ln R (fun I2 J2 => Iw0 L κ R ow I2 ∧ Fq L κ ow [83400] I I2 ∧ Fq L κ ow [] J J2 ∧ (Hd_ R x I I2))) ([.ref x] : List Value).toArray s 0 0 (Al_ L)) D cy (Al_ L) s.heap L κ ln R I_16 J 57 [(0, .ref x), (1, .int v_15)] [] := by
        intro m_57
        induction m_57 with
        | zero =>
          intro v_15 I_16 hk_57 h0_57 hI_16
          have rv_15 : Rg 42 42 v_15 := by unfold Rg; omega
          refine g_iload_n C 1 dX12_startSo_57 rfl rfl ?_
          refine g_bipush C (v := 42) dX12_startSo_58 (by decide) ?_
          refine g_icmp_ge C (tgt := 87) dX12_startSo_60 (by decide) (fun h_17 => ?_) (fun h_17 => ?_)
          · skip
            refine g_lo (is := [0, 1]) (lo2 := [(0, .ref x), (1, .int v_15)]) rfl ?_
            exact ex_57 I_16 (hI_16.trans (congrArg (fun q => cpn_ I_7 b_1 b_1 (30) (105) q) (show v_15.toNatClampNeg = 42 from by have := ix_n rv_15 (by decide); have := rv_15.1; have := rv_15.2; omega))) v_15 rv_15
          · skip
            have r_18 := lt_l (hi := 41) (nle h_17) rv_15 rc_42 (by decide)
            exact rg_no r_18 (by decide)
        | succ m_57 ih_57 =>
          intro v_15 I_16 hk_57 h0_57 hI_16
          have rv_15 : Rg 0 41 v_15 := by unfold Rg; omega
          refine g_iload_n C 1 dX12_startSo_57 rfl rfl ?_
          refine g_bipush C (v := 42) dX12_startSo_58 (by decide) ?_
          refine g_icmp_ge C (tgt := 87) dX12_startSo_60 (by decide) (fun h_19 => ?_) (fun h_19 => ?_)
          · skip
            have r_20 := le_r (h_19) rc_42 rv_15
            exact rg_no r_20 (by decide)
          · skip
            refine g_aload_n C 0 dX12_startSo_63 rfl rfl ?_
            refine g_getR C K hLx hkx f_12_13 hb_1 dX12_startSo_64 ?_
            refine g_bipush C (v := 105) dX12_startSo_67 (by decide) ?_
            refine g_iload_n C 1 dX12_startSo_69 rfl rfl ?_
            obtain ⟨x_21, hx_21, rx_21, tx_21⟩ := ex_add 105 146 rc_105 rv_15 (by decide) (by decide) (by decide) (by decide)
            refine g_iadd C (v := x_21) dX12_startSo_70 hx_21 ?_
            refine g_aload_n C 0 dX12_startSo_71 rfl rfl ?_
            refine g_getR C K hLx hkx f_12_13 hb_1 dX12_startSo_72 ?_
            refine g_bipush C (v := 30) dX12_startSo_75 (by decide) ?_
            refine g_iload_n C 1 dX12_startSo_77 rfl rfl ?_
            obtain ⟨x_22, hx_22, rx_22, tx_22⟩ := ex_add 30 71 rc_30 rv_15 (by decide) (by decide) (by decide) (by decide)
            refine g_iadd C (v := x_22) dX12_startSo_78 hx_22 ?_
            obtain ⟨x_23, hx_23, rx_23⟩ := ex_any (z0 := I_16 b_1 (x_22.toNatClampNeg))
            refine h_iald C K hb_1L hb_1k (v := x_23) (x_22.toNatClampNeg) (rfl) (ix_0 rx_22 (by decide)) (ix_lt rx_22 (by decide) hb_1n (by decide)) hx_23 dX12_startSo_79 ?_
            refine h_iast C K hb_1L hb_1k (x_21.toNatClampNeg) (rfl) (ix_0 rx_21 (by decide)) (ix_lt rx_21 (by decide) hb_1n (by decide)) dX12_startSo_80 (fun I_24 hI_24 => ?_)
            obtain ⟨x_25, hx_25, rx_25, tx_25⟩ := ex_add (y := 1) 1 42 rv_15 rc_1 (by decide) (by decide) (by decide) (by decide)
            refine g_iinc C dX12_startSo_81 (k := 1) (v := x_25) rfl hx_25 (by decide) (lo2 := [(1, .int x_25), (0, .ref x)]) rfl ?_
            refine g_goto C (tgt := 57) dX12_startSo_84 (by decide) ?_
            refine g_lo (is := [1, 0]) (lo2 := [(0, .ref x), (1, .int x_25)]) rfl ?_
            have kk_57 : x_25.toNatClampNeg = v_15.toNatClampNeg + 1 := by have q1 := ix_n rv_15 (by decide); have q2 := (ti_k tx_25 rc_1); have q3 : x_25.toNatClampNeg = x_25.toInt.toNat := rfl; omega
            exact ih_57 x_25 I_24 (by have := (ti_k tx_25 rc_1); omega) (by have := (ti_k tx_25 rc_1); omega) (by rw [kk_57]; exact cpn_s hI_16 hx_23 hI_24 (show x_22.toNatClampNeg = (30) + v_15.toNatClampNeg from by rw [nx_a tx_22 rc_30 rv_15 (by decide)]; simp only [show (30 : Int32).toNatClampNeg = 30 from rfl] <;> omega) (show x_21.toNatClampNeg = (105) + v_15.toNatClampNeg from by rw [nx_a tx_21 rc_105 rv_15 (by decide)]; simp only [show (105 : Int32).toNatClampNeg = 105 from rfl] <;> omega) (Or.inr (Or.inr (by have q1 := ix_n rv_15 (by decide); have q2 := rv_15.2; omega))))
      exact l_57 42 0 I_7 (by decide) (by decide) cpn_0
    have l_25 : ∀ (m_25 : Nat) (v_26 : Int32) (I_27 : Nat → Nat → Int32), v_26.toInt + (m_25 : Int) = 6 → 0 ≤ v_26.toInt → I_27 = cpn_ I_3 b_1 b_1 (18) (78) v_26.toNatClampNeg → WG p l e { frames := 0, cells := 0, slots := 0, locals := 0 } s m ([.ref x] : List Value).toArray below meth c 2 0 0 (MQ below (Qv_ D cy L κ ln R (fun I2 J2 => Iw0 L κ R ow I2 ∧ Fq L κ ow [83400] I I2 ∧ Fq L κ ow [] J J2 ∧ (Hd_ R x I I2))) ([.ref x] : List Value).toArray s 0 0 (Al_ L)) D cy (Al_ L) s.heap L κ ln R I_27 J 25 [(0, .ref x), (1, .int v_26)] [] := by
      intro m_25
      induction m_25 with
      | zero =>
        intro v_26 I_27 hk_25 h0_25 hI_27
        have rv_26 : Rg 6 6 v_26 := by unfold Rg; omega
        refine g_iload_n C 1 dX12_startSo_25 rfl rfl ?_
        refine g_bipush C (v := 6) dX12_startSo_26 (by decide) ?_
        refine g_icmp_ge C (tgt := 55) dX12_startSo_28 (by decide) (fun h_28 => ?_) (fun h_28 => ?_)
        · skip
          refine g_lo (is := [0, 1]) (lo2 := [(0, .ref x), (1, .int v_26)]) rfl ?_
          exact ex_25 I_27 (hI_27.trans (congrArg (fun q => cpn_ I_3 b_1 b_1 (18) (78) q) (show v_26.toNatClampNeg = 6 from by have := ix_n rv_26 (by decide); have := rv_26.1; have := rv_26.2; omega))) v_26 rv_26
        · skip
          have r_29 := lt_l (hi := 5) (nle h_28) rv_26 rc_6 (by decide)
          exact rg_no r_29 (by decide)
      | succ m_25 ih_25 =>
        intro v_26 I_27 hk_25 h0_25 hI_27
        have rv_26 : Rg 0 5 v_26 := by unfold Rg; omega
        refine g_iload_n C 1 dX12_startSo_25 rfl rfl ?_
        refine g_bipush C (v := 6) dX12_startSo_26 (by decide) ?_
        refine g_icmp_ge C (tgt := 55) dX12_startSo_28 (by decide) (fun h_30 => ?_) (fun h_30 => ?_)
        · skip
          have r_31 := le_r (h_30) rc_6 rv_26
          exact rg_no r_31 (by decide)
        · skip
          refine g_aload_n C 0 dX12_startSo_31 rfl rfl ?_
          refine g_getR C K hLx hkx f_12_13 hb_1 dX12_startSo_32 ?_
          refine g_bipush C (v := 78) dX12_startSo_35 (by decide) ?_
          refine g_iload_n C 1 dX12_startSo_37 rfl rfl ?_
          obtain ⟨x_32, hx_32, rx_32, tx_32⟩ := ex_add 78 83 rc_78 rv_26 (by decide) (by decide) (by decide) (by decide)
          refine g_iadd C (v := x_32) dX12_startSo_38 hx_32 ?_
          refine g_aload_n C 0 dX12_startSo_39 rfl rfl ?_
          refine g_getR C K hLx hkx f_12_13 hb_1 dX12_startSo_40 ?_
          refine g_bipush C (v := 18) dX12_startSo_43 (by decide) ?_
          refine g_iload_n C 1 dX12_startSo_45 rfl rfl ?_
          obtain ⟨x_33, hx_33, rx_33, tx_33⟩ := ex_add 18 23 rc_18 rv_26 (by decide) (by decide) (by decide) (by decide)
          refine g_iadd C (v := x_33) dX12_startSo_46 hx_33 ?_
          obtain ⟨x_34, hx_34, rx_34⟩ := ex_any (z0 := I_27 b_1 (x_33.toNatClampNeg))
          refine h_iald C K hb_1L hb_1k (v := x_34) (x_33.toNatClampNeg) (rfl) (ix_0 rx_33 (by decide)) (ix_lt rx_33 (by decide) hb_1n (by decide)) hx_34 dX12_startSo_47 ?_
          refine h_iast C K hb_1L hb_1k (x_32.toNatClampNeg) (rfl) (ix_0 rx_32 (by decide)) (ix_lt rx_32 (by decide) hb_1n (by decide)) dX12_startSo_48 (fun I_35 hI_35 => ?_)
          obtain ⟨x_36, hx_36, rx_36, tx_36⟩ := ex_add (y := 1) 1 6 rv_26 rc_1 (by decide) (by decide) (by decide) (by decide)
          refine g_iinc C dX12_startSo_49 (k := 1) (v := x_36) rfl hx_36 (by decide) (lo2 := [(1, .int x_36), (0, .ref x)]) rfl ?_
          refine g_goto C (tgt := 25) dX12_startSo_52 (by decide) ?_
          refine g_lo (is := [1, 0]) (lo2 := [(0, .ref x), (1, .int x_36)]) rfl ?_
          have kk_25 : x_36.toNatClampNeg = v_26.toNatClampNeg + 1 := by have q1 := ix_n rv_26 (by decide); have q2 := (ti_k tx_36 rc_1); have q3 : x_36.toNatClampNeg = x_36.toInt.toNat := rfl; omega
          exact ih_25 x_36 I_35 (by have := (ti_k tx_36 rc_1); omega) (by have := (ti_k tx_36 rc_1); omega) (by rw [kk_25]; exact cpn_s hI_27 hx_34 hI_35 (show x_33.toNatClampNeg = (18) + v_26.toNatClampNeg from by rw [nx_a tx_33 rc_18 rv_26 (by decide)]; simp only [show (18 : Int32).toNatClampNeg = 18 from rfl] <;> omega) (show x_32.toNatClampNeg = (78) + v_26.toNatClampNeg from by rw [nx_a tx_32 rc_78 rv_26 (by decide)]; simp only [show (78 : Int32).toNatClampNeg = 78 from rfl] <;> omega) (Or.inr (Or.inr (by have q1 := ix_n rv_26 (by decide); have q2 := rv_26.2; omega))))
    exact l_25 6 0 I_3 (by decide) (by decide) cpn_0
  have l_3 : ∀ (m_3 : Nat) (v_37 : Int32) (I_38 : Nat → Nat → Int32), v_37.toInt + (m_3 : Int) = 389 → 72 ≤ v_37.toInt → I_38 = fil_ I b_1 (72) (v_37.toNatClampNeg - 72) → WG p l e { frames := 0, cells := 0, slots := 0, locals := 0 } s m ([.ref x] : List Value).toArray below meth c 2 0 0 (MQ below (Qv_ D cy L κ ln R (fun I2 J2 => Iw0 L κ R ow I2 ∧ Fq L κ ow [83400] I I2 ∧ Fq L κ ow [] J J2 ∧ (Hd_ R x I I2))) ([.ref x] : List Value).toArray s 0 0 (Al_ L)) D cy (Al_ L) s.heap L κ ln R I_38 J 3 [(0, .ref x), (1, .int v_37)] [] := by
    intro m_3
    induction m_3 with
    | zero =>
      intro v_37 I_38 hk_3 h0_3 hI_38
      have rv_37 : Rg 389 389 v_37 := by unfold Rg; omega
      refine g_iload_n C 1 dX12_startSo_3 rfl rfl ?_
      refine g_sipush C (v := 389) dX12_startSo_4 (by decide) ?_
      refine g_icmp_ge C (tgt := 23) dX12_startSo_7 (by decide) (fun h_39 => ?_) (fun h_39 => ?_)
      · skip
        refine g_lo (is := [0, 1]) (lo2 := [(0, .ref x), (1, .int v_37)]) rfl ?_
        exact ex_3 I_38 (hI_38.trans (congrArg (fun q => fil_ I b_1 (72) q) (show v_37.toNatClampNeg - 72 = 317 from by have := ix_n rv_37 (by decide); have := rv_37.1; have := rv_37.2; omega))) v_37 rv_37
      · skip
        have r_40 := lt_l (hi := 388) (nle h_39) rv_37 rc_389 (by decide)
        exact rg_no r_40 (by decide)
    | succ m_3 ih_3 =>
      intro v_37 I_38 hk_3 h0_3 hI_38
      have rv_37 : Rg 72 388 v_37 := by unfold Rg; omega
      refine g_iload_n C 1 dX12_startSo_3 rfl rfl ?_
      refine g_sipush C (v := 389) dX12_startSo_4 (by decide) ?_
      refine g_icmp_ge C (tgt := 23) dX12_startSo_7 (by decide) (fun h_41 => ?_) (fun h_41 => ?_)
      · skip
        have r_42 := le_r (h_41) rc_389 rv_37
        exact rg_no r_42 (by decide)
      · skip
        refine g_aload_n C 0 dX12_startSo_10 rfl rfl ?_
        refine g_getR C K hLx hkx f_12_13 hb_1 dX12_startSo_11 ?_
        refine g_iload_n C 1 dX12_startSo_14 rfl rfl ?_
        refine g_iconst C (v := 0) dX12_startSo_15 (by decide) ?_
        refine h_iast C K hb_1L hb_1k (v_37.toNatClampNeg) (rfl) (ix_0 rv_37 (by decide)) (ix_lt rv_37 (by decide) hb_1n (by decide)) dX12_startSo_16 (fun I_43 hI_43 => ?_)
        obtain ⟨x_44, hx_44, rx_44, tx_44⟩ := ex_add (y := 1) 73 389 rv_37 rc_1 (by decide) (by decide) (by decide) (by decide)
        refine g_iinc C dX12_startSo_17 (k := 1) (v := x_44) rfl hx_44 (by decide) (lo2 := [(1, .int x_44), (0, .ref x)]) rfl ?_
        refine g_goto C (tgt := 3) dX12_startSo_20 (by decide) ?_
        refine g_lo (is := [1, 0]) (lo2 := [(0, .ref x), (1, .int x_44)]) rfl ?_
        have kk_3 : x_44.toNatClampNeg - 72 = (v_37.toNatClampNeg - 72) + 1 := by have q1 := ix_n rv_37 (by decide); have q2 := (ti_k tx_44 rc_1); have q3 : x_44.toNatClampNeg = x_44.toInt.toNat := rfl; have := rv_37.1; omega
        exact ih_3 x_44 I_43 (by have := (ti_k tx_44 rc_1); omega) (by have := (ti_k tx_44 rc_1); omega) (by rw [kk_3]; exact fil_s hI_38 hI_43 (by have q1 := ix_n rv_37 (by decide); have := rv_37.1; omega))
  exact l_3 317 72 I (by decide) (by decide) fil_0
