theorem dX12_findIn_0 : decode cX12_findIn 0 = .ok (.iconst 0, 1) := by decide +kernel
theorem dX12_findIn_1 : decode cX12_findIn 1 = .ok (.istore 5, 2) := by decide +kernel
theorem dX12_findIn_3 : decode cX12_findIn 3 = .ok (.iload 5, 2) := by decide +kernel
theorem dX12_findIn_5 : decode cX12_findIn 5 = .ok (.iload_n 2, 1) := by decide +kernel
theorem dX12_findIn_6 : decode cX12_findIn 6 = .ok (.if_icmp .ge 23, 3) := by decide +kernel
theorem dX12_findIn_9 : decode cX12_findIn 9 = .ok (.aload_n 0, 1) := by decide +kernel
theorem dX12_findIn_10 : decode cX12_findIn 10 = .ok (.iload_n 1, 1) := by decide +kernel
theorem dX12_findIn_11 : decode cX12_findIn 11 = .ok (.iload 5, 2) := by decide +kernel
theorem dX12_findIn_13 : decode cX12_findIn 13 = .ok (.iadd, 1) := by decide +kernel
theorem dX12_findIn_14 : decode cX12_findIn 14 = .ok (.laload, 1) := by decide +kernel
theorem dX12_findIn_15 : decode cX12_findIn 15 = .ok (.lload_n 3, 1) := by decide +kernel
theorem dX12_findIn_16 : decode cX12_findIn 16 = .ok (.lcmp, 1) := by decide +kernel
theorem dX12_findIn_17 : decode cX12_findIn 17 = .ok (.ifCond .ne 6, 3) := by decide +kernel
theorem dX12_findIn_20 : decode cX12_findIn 20 = .ok (.iload 5, 2) := by decide +kernel
theorem dX12_findIn_22 : decode cX12_findIn 22 = .ok (.ireturn, 1) := by decide +kernel
theorem dX12_findIn_23 : decode cX12_findIn 23 = .ok (.iinc 5 1, 3) := by decide +kernel
theorem dX12_findIn_26 : decode cX12_findIn 26 = .ok (.goto (-23), 3) := by decide +kernel
theorem dX12_findIn_29 : decode cX12_findIn 29 = .ok (.iconst (-1), 1) := by decide +kernel
theorem dX12_findIn_30 : decode cX12_findIn 30 = .ok (.ireturn, 1) := by decide +kernel
theorem dX12_isIn_0 : decode cX12_isIn 0 = .ok (.iload_n 0, 1) := by decide +kernel
theorem dX12_isIn_1 : decode cX12_isIn 1 = .ok (.iload_n 1, 1) := by decide +kernel
theorem dX12_isIn_2 : decode cX12_isIn 2 = .ok (.if_icmp .lt 12, 3) := by decide +kernel
theorem dX12_isIn_5 : decode cX12_isIn 5 = .ok (.iload_n 0, 1) := by decide +kernel
theorem dX12_isIn_6 : decode cX12_isIn 6 = .ok (.iload_n 2, 1) := by decide +kernel
theorem dX12_isIn_7 : decode cX12_isIn 7 = .ok (.if_icmp .gt 7, 3) := by decide +kernel
theorem dX12_isIn_10 : decode cX12_isIn 10 = .ok (.iconst 1, 1) := by decide +kernel
theorem dX12_isIn_11 : decode cX12_isIn 11 = .ok (.goto 4, 3) := by decide +kernel
theorem dX12_isIn_14 : decode cX12_isIn 14 = .ok (.iconst 0, 1) := by decide +kernel
theorem dX12_isIn_15 : decode cX12_isIn 15 = .ok (.ireturn, 1) := by decide +kernel
theorem dX12_isName_0 : decode cX12_isName 0 = .ok (.aload_n 0, 1) := by decide +kernel
theorem dX12_isName_1 : decode cX12_isName 1 = .ok (.getfield 104, 3) := by decide +kernel
theorem dX12_isName_4 : decode cX12_isName 4 = .ok (.iconst 2, 1) := by decide +kernel
theorem dX12_isName_5 : decode cX12_isName 5 = .ok (.if_icmp .eq 5, 3) := by decide +kernel
theorem dX12_isName_8 : decode cX12_isName 8 = .ok (.iconst 0, 1) := by decide +kernel
theorem dX12_isName_9 : decode cX12_isName 9 = .ok (.ireturn, 1) := by decide +kernel
theorem dX12_isName_10 : decode cX12_isName 10 = .ok (.iconst 0, 1) := by decide +kernel
theorem dX12_isName_11 : decode cX12_isName 11 = .ok (.istore_n 1, 1) := by decide +kernel
theorem dX12_isName_12 : decode cX12_isName 12 = .ok (.iload_n 1, 1) := by decide +kernel
theorem dX12_isName_13 : decode cX12_isName 13 = .ok (.bipush 27, 2) := by decide +kernel
theorem dX12_isName_15 : decode cX12_isName 15 = .ok (.if_icmp .gt 23, 3) := by decide +kernel
theorem dX12_isName_18 : decode cX12_isName 18 = .ok (.aload_n 0, 1) := by decide +kernel
theorem dX12_isName_19 : decode cX12_isName 19 = .ok (.getfield 117, 3) := by decide +kernel
theorem dX12_isName_22 : decode cX12_isName 22 = .ok (.iload_n 1, 1) := by decide +kernel
theorem dX12_isName_23 : decode cX12_isName 23 = .ok (.invokestatic 136, 3) := by decide +kernel
theorem dX12_isName_26 : decode cX12_isName 26 = .ok (.lcmp, 1) := by decide +kernel
theorem dX12_isName_27 : decode cX12_isName 27 = .ok (.ifCond .ne 5, 3) := by decide +kernel
theorem dX12_isName_30 : decode cX12_isName 30 = .ok (.iconst 0, 1) := by decide +kernel
theorem dX12_isName_31 : decode cX12_isName 31 = .ok (.ireturn, 1) := by decide +kernel
theorem dX12_isName_32 : decode cX12_isName 32 = .ok (.iinc 1 1, 3) := by decide +kernel
theorem dX12_isName_35 : decode cX12_isName 35 = .ok (.goto (-23), 3) := by decide +kernel
theorem dX12_isName_38 : decode cX12_isName 38 = .ok (.iconst 1, 1) := by decide +kernel
theorem dX12_isName_39 : decode cX12_isName 39 = .ok (.ireturn, 1) := by decide +kernel
theorem dX12_isWord_0 : decode cX12_isWord 0 = .ok (.aload_n 0, 1) := by decide +kernel
theorem dX12_isWord_1 : decode cX12_isWord 1 = .ok (.getfield 104, 3) := by decide +kernel
theorem dX12_isWord_4 : decode cX12_isWord 4 = .ok (.iconst 2, 1) := by decide +kernel
theorem dX12_isWord_5 : decode cX12_isWord 5 = .ok (.if_icmp .ne 19, 3) := by decide +kernel
theorem dX12_isWord_8 : decode cX12_isWord 8 = .ok (.aload_n 0, 1) := by decide +kernel
theorem dX12_isWord_9 : decode cX12_isWord 9 = .ok (.getfield 117, 3) := by decide +kernel
theorem dX12_isWord_12 : decode cX12_isWord 12 = .ok (.iload_n 1, 1) := by decide +kernel
theorem dX12_isWord_13 : decode cX12_isWord 13 = .ok (.invokestatic 136, 3) := by decide +kernel
theorem dX12_isWord_16 : decode cX12_isWord 16 = .ok (.lcmp, 1) := by decide +kernel
theorem dX12_isWord_17 : decode cX12_isWord 17 = .ok (.ifCond .ne 7, 3) := by decide +kernel
theorem dX12_isWord_20 : decode cX12_isWord 20 = .ok (.iconst 1, 1) := by decide +kernel
theorem dX12_isWord_21 : decode cX12_isWord 21 = .ok (.goto 4, 3) := by decide +kernel
theorem dX12_isWord_24 : decode cX12_isWord 24 = .ok (.iconst 0, 1) := by decide +kernel
theorem dX12_isWord_25 : decode cX12_isWord 25 = .ok (.ireturn, 1) := by decide +kernel
theorem dX12_put_0 : decode cX12_put 0 = .ok (.iload_n 2, 1) := by decide +kernel
theorem dX12_put_1 : decode cX12_put 1 = .ok (.ifCond .eq 13, 3) := by decide +kernel
theorem dX12_put_4 : decode cX12_put 4 = .ok (.aload_n 0, 1) := by decide +kernel
theorem dX12_put_5 : decode cX12_put 5 = .ok (.getfield 16, 3) := by decide +kernel
theorem dX12_put_8 : decode cX12_put 8 = .ok (.iload_n 1, 1) := by decide +kernel
theorem dX12_put_9 : decode cX12_put 9 = .ok (.aload_n 0, 1) := by decide +kernel
theorem dX12_put_10 : decode cX12_put 10 = .ok (.getfield 153, 3) := by decide +kernel
theorem dX12_put_13 : decode cX12_put 13 = .ok (.iastore, 1) := by decide +kernel
theorem dX12_put_14 : decode cX12_put 14 = .ok (.iload_n 2, 1) := by decide +kernel
theorem dX12_put_15 : decode cX12_put 15 = .ok (.ireturn, 1) := by decide +kernel
theorem dX12_readDish_0 : decode cX12_readDish 0 = .ok (.aload_n 0, 1) := by decide +kernel
theorem dX12_readDish_1 : decode cX12_readDish 1 = .ok (.iconst 1, 1) := by decide +kernel
theorem dX12_readDish_2 : decode cX12_readDish 2 = .ok (.bipush 6, 2) := by decide +kernel
theorem dX12_readDish_4 : decode cX12_readDish 4 = .ok (.invokevirtual 178, 3) := by decide +kernel
theorem dX12_readDish_7 : decode cX12_readDish 7 = .ok (.ifCond .ne 5, 3) := by decide +kernel
theorem dX12_readDish_10 : decode cX12_readDish 10 = .ok (.iconst 0, 1) := by decide +kernel
theorem dX12_readDish_11 : decode cX12_readDish 11 = .ok (.ireturn, 1) := by decide +kernel
theorem dX12_readDish_12 : decode cX12_readDish 12 = .ok (.aload_n 0, 1) := by decide +kernel
theorem dX12_readDish_13 : decode cX12_readDish 13 = .ok (.getfield 16, 3) := by decide +kernel
theorem dX12_readDish_16 : decode cX12_readDish 16 = .ok (.iconst 1, 1) := by decide +kernel
theorem dX12_readDish_17 : decode cX12_readDish 17 = .ok (.iaload, 1) := by decide +kernel
theorem dX12_readDish_18 : decode cX12_readDish 18 = .ok (.istore_n 1, 1) := by decide +kernel
theorem dX12_readDish_19 : decode cX12_readDish 19 = .ok (.aload_n 0, 1) := by decide +kernel
theorem dX12_readDish_20 : decode cX12_readDish 20 = .ok (.bipush 7, 2) := by decide +kernel
theorem dX12_readDish_22 : decode cX12_readDish 22 = .ok (.iload_n 1, 1) := by decide +kernel
theorem dX12_readDish_23 : decode cX12_readDish 23 = .ok (.iadd, 1) := by decide +kernel
theorem dX12_readDish_24 : decode cX12_readDish 24 = .ok (.invokevirtual 181, 3) := by decide +kernel
theorem dX12_readDish_27 : decode cX12_readDish 27 = .ok (.ifCond .eq 21, 3) := by decide +kernel
theorem dX12_readDish_30 : decode cX12_readDish 30 = .ok (.aload_n 0, 1) := by decide +kernel
theorem dX12_readDish_31 : decode cX12_readDish 31 = .ok (.bipush 18, 2) := by decide +kernel
theorem dX12_readDish_33 : decode cX12_readDish 33 = .ok (.iload_n 1, 1) := by decide +kernel
theorem dX12_readDish_34 : decode cX12_readDish 34 = .ok (.iadd, 1) := by decide +kernel
theorem dX12_readDish_35 : decode cX12_readDish 35 = .ok (.aload_n 0, 1) := by decide +kernel
theorem dX12_readDish_36 : decode cX12_readDish 36 = .ok (.iconst 0, 1) := by decide +kernel
theorem dX12_readDish_37 : decode cX12_readDish 37 = .ok (.bipush 99, 2) := by decide +kernel
theorem dX12_readDish_39 : decode cX12_readDish 39 = .ok (.invokevirtual 184, 3) := by decide +kernel
theorem dX12_readDish_42 : decode cX12_readDish 42 = .ok (.invokevirtual 187, 3) := by decide +kernel
theorem dX12_readDish_45 : decode cX12_readDish 45 = .ok (.ifCond .ne 5, 3) := by decide +kernel
theorem dX12_readDish_48 : decode cX12_readDish 48 = .ok (.iconst 0, 1) := by decide +kernel
theorem dX12_readDish_49 : decode cX12_readDish 49 = .ok (.ireturn, 1) := by decide +kernel
theorem dX12_readDish_50 : decode cX12_readDish 50 = .ok (.aload_n 0, 1) := by decide +kernel
theorem dX12_readDish_51 : decode cX12_readDish 51 = .ok (.iconst 2, 1) := by decide +kernel
theorem dX12_readDish_52 : decode cX12_readDish 52 = .ok (.invokevirtual 191, 3) := by decide +kernel
theorem dX12_readDish_55 : decode cX12_readDish 55 = .ok (.ifCond .eq 27, 3) := by decide +kernel
theorem dX12_readDish_58 : decode cX12_readDish 58 = .ok (.aload_n 0, 1) := by decide +kernel
theorem dX12_readDish_59 : decode cX12_readDish 59 = .ok (.invokevirtual 156, 3) := by decide +kernel
theorem dX12_readDish_62 : decode cX12_readDish 62 = .ok (.aload_n 0, 1) := by decide +kernel
theorem dX12_readDish_63 : decode cX12_readDish 63 = .ok (.bipush 24, 2) := by decide +kernel
theorem dX12_readDish_65 : decode cX12_readDish 65 = .ok (.iload_n 1, 1) := by decide +kernel
theorem dX12_readDish_66 : decode cX12_readDish 66 = .ok (.iadd, 1) := by decide +kernel
theorem dX12_readDish_67 : decode cX12_readDish 67 = .ok (.aload_n 0, 1) := by decide +kernel
theorem dX12_readDish_68 : decode cX12_readDish 68 = .ok (.iconst 1, 1) := by decide +kernel
theorem dX12_readDish_69 : decode cX12_readDish 69 = .ok (.bipush 9, 2) := by decide +kernel
theorem dX12_readDish_71 : decode cX12_readDish 71 = .ok (.invokevirtual 184, 3) := by decide +kernel
theorem dX12_readDish_74 : decode cX12_readDish 74 = .ok (.invokevirtual 187, 3) := by decide +kernel
theorem dX12_readDish_77 : decode cX12_readDish 77 = .ok (.ifCond .ne 5, 3) := by decide +kernel
theorem dX12_readDish_80 : decode cX12_readDish 80 = .ok (.iconst 0, 1) := by decide +kernel
theorem dX12_readDish_81 : decode cX12_readDish 81 = .ok (.ireturn, 1) := by decide +kernel
theorem dX12_readDish_82 : decode cX12_readDish 82 = .ok (.aload_n 0, 1) := by decide +kernel
theorem dX12_readDish_83 : decode cX12_readDish 83 = .ok (.getfield 16, 3) := by decide +kernel
theorem dX12_readDish_86 : decode cX12_readDish 86 = .ok (.iconst 1, 1) := by decide +kernel
theorem dX12_readDish_87 : decode cX12_readDish 87 = .ok (.dup2, 1) := by decide +kernel
theorem dX12_readDish_88 : decode cX12_readDish 88 = .ok (.iaload, 1) := by decide +kernel
theorem dX12_readDish_89 : decode cX12_readDish 89 = .ok (.iconst 1, 1) := by decide +kernel
theorem dX12_readDish_90 : decode cX12_readDish 90 = .ok (.iadd, 1) := by decide +kernel
theorem dX12_readDish_91 : decode cX12_readDish 91 = .ok (.iastore, 1) := by decide +kernel
theorem dX12_readDish_92 : decode cX12_readDish 92 = .ok (.iconst 1, 1) := by decide +kernel
theorem dX12_readDish_93 : decode cX12_readDish 93 = .ok (.ireturn, 1) := by decide +kernel
theorem dX12_readFirst_0 : decode cX12_readFirst 0 = .ok (.aload_n 0, 1) := by decide +kernel
theorem dX12_readFirst_1 : decode cX12_readFirst 1 = .ok (.getfield 16, 3) := by decide +kernel
theorem dX12_readFirst_4 : decode cX12_readFirst 4 = .ok (.iload_n 1, 1) := by decide +kernel
theorem dX12_readFirst_5 : decode cX12_readFirst 5 = .ok (.iaload, 1) := by decide +kernel
theorem dX12_readFirst_6 : decode cX12_readFirst 6 = .ok (.iload_n 2, 1) := by decide +kernel
theorem dX12_readFirst_7 : decode cX12_readFirst 7 = .ok (.if_icmp .ne 9, 3) := by decide +kernel
theorem dX12_readFirst_10 : decode cX12_readFirst 10 = .ok (.aload_n 0, 1) := by decide +kernel
theorem dX12_readFirst_11 : decode cX12_readFirst 11 = .ok (.iconst 4, 1) := by decide +kernel
theorem dX12_readFirst_12 : decode cX12_readFirst 12 = .ok (.invokevirtual 146, 3) := by decide +kernel
theorem dX12_readFirst_15 : decode cX12_readFirst 15 = .ok (.ireturn, 1) := by decide +kernel
theorem dX12_readFirst_16 : decode cX12_readFirst 16 = .ok (.aload_n 0, 1) := by decide +kernel
theorem dX12_readFirst_17 : decode cX12_readFirst 17 = .ok (.invokevirtual 156, 3) := by decide +kernel
theorem dX12_readFirst_20 : decode cX12_readFirst 20 = .ok (.iconst 1, 1) := by decide +kernel
theorem dX12_readFirst_21 : decode cX12_readFirst 21 = .ok (.ireturn, 1) := by decide +kernel
theorem dX12_readLaw_0 : decode cX12_readLaw 0 = .ok (.aload_n 0, 1) := by decide +kernel
theorem dX12_readLaw_1 : decode cX12_readLaw 1 = .ok (.getfield 197, 3) := by decide +kernel
theorem dX12_readLaw_4 : decode cX12_readLaw 4 = .ok (.ifCond .eq 9, 3) := by decide +kernel
theorem dX12_readLaw_7 : decode cX12_readLaw 7 = .ok (.aload_n 0, 1) := by decide +kernel
theorem dX12_readLaw_8 : decode cX12_readLaw 8 = .ok (.iconst 3, 1) := by decide +kernel
theorem dX12_readLaw_9 : decode cX12_readLaw 9 = .ok (.invokevirtual 146, 3) := by decide +kernel
theorem dX12_readLaw_12 : decode cX12_readLaw 12 = .ok (.ireturn, 1) := by decide +kernel
theorem dX12_readLaw_13 : decode cX12_readLaw 13 = .ok (.aload_n 0, 1) := by decide +kernel
theorem dX12_readLaw_14 : decode cX12_readLaw 14 = .ok (.iconst 1, 1) := by decide +kernel
theorem dX12_readLaw_15 : decode cX12_readLaw 15 = .ok (.putfield 197, 3) := by decide +kernel
theorem dX12_readLaw_18 : decode cX12_readLaw 18 = .ok (.aload_n 0, 1) := by decide +kernel
theorem dX12_readLaw_19 : decode cX12_readLaw 19 = .ok (.invokevirtual 156, 3) := by decide +kernel
theorem dX12_readLaw_22 : decode cX12_readLaw 22 = .ok (.iconst 5, 1) := by decide +kernel
theorem dX12_readLaw_23 : decode cX12_readLaw 23 = .ok (.istore_n 1, 1) := by decide +kernel
theorem dX12_readLaw_24 : decode cX12_readLaw 24 = .ok (.iload_n 1, 1) := by decide +kernel
theorem dX12_readLaw_25 : decode cX12_readLaw 25 = .ok (.bipush 7, 2) := by decide +kernel
theorem dX12_readLaw_27 : decode cX12_readLaw 27 = .ok (.if_icmp .gt 17, 3) := by decide +kernel
theorem dX12_readLaw_30 : decode cX12_readLaw 30 = .ok (.aload_n 0, 1) := by decide +kernel
theorem dX12_readLaw_31 : decode cX12_readLaw 31 = .ok (.iload_n 1, 1) := by decide +kernel
theorem dX12_readLaw_32 : decode cX12_readLaw 32 = .ok (.invokevirtual 191, 3) := by decide +kernel
theorem dX12_readLaw_35 : decode cX12_readLaw 35 = .ok (.ifCond .ne 9, 3) := by decide +kernel
theorem dX12_readLaw_38 : decode cX12_readLaw 38 = .ok (.iinc 1 1, 3) := by decide +kernel
theorem dX12_readLaw_41 : decode cX12_readLaw 41 = .ok (.goto (-17), 3) := by decide +kernel
theorem dX12_readLaw_44 : decode cX12_readLaw 44 = .ok (.iload_n 1, 1) := by decide +kernel
theorem dX12_readLaw_45 : decode cX12_readLaw 45 = .ok (.bipush 7, 2) := by decide +kernel
theorem dX12_readLaw_47 : decode cX12_readLaw 47 = .ok (.if_icmp .le 9, 3) := by decide +kernel
theorem dX12_readLaw_50 : decode cX12_readLaw 50 = .ok (.aload_n 0, 1) := by decide +kernel
theorem dX12_readLaw_51 : decode cX12_readLaw 51 = .ok (.iconst 1, 1) := by decide +kernel
theorem dX12_readLaw_52 : decode cX12_readLaw 52 = .ok (.invokevirtual 146, 3) := by decide +kernel
theorem dX12_readLaw_55 : decode cX12_readLaw 55 = .ok (.ireturn, 1) := by decide +kernel
theorem dX12_readLaw_56 : decode cX12_readLaw 56 = .ok (.aload_n 0, 1) := by decide +kernel
theorem dX12_readLaw_57 : decode cX12_readLaw 57 = .ok (.getfield 16, 3) := by decide +kernel
theorem dX12_readLaw_60 : decode cX12_readLaw 60 = .ok (.iconst 2, 1) := by decide +kernel
theorem dX12_readLaw_61 : decode cX12_readLaw 61 = .ok (.iload_n 1, 1) := by decide +kernel
theorem dX12_readLaw_62 : decode cX12_readLaw 62 = .ok (.iconst 5, 1) := by decide +kernel
theorem dX12_readLaw_63 : decode cX12_readLaw 63 = .ok (.isub, 1) := by decide +kernel
theorem dX12_readLaw_64 : decode cX12_readLaw 64 = .ok (.iastore, 1) := by decide +kernel
theorem dX12_readLaw_65 : decode cX12_readLaw 65 = .ok (.aload_n 0, 1) := by decide +kernel
theorem dX12_readLaw_66 : decode cX12_readLaw 66 = .ok (.invokevirtual 156, 3) := by decide +kernel
theorem dX12_readLaw_69 : decode cX12_readLaw 69 = .ok (.iconst 1, 1) := by decide +kernel
theorem dX12_readLaw_70 : decode cX12_readLaw 70 = .ok (.ireturn, 1) := by decide +kernel
theorem dX12_readNew_0 : decode cX12_readNew 0 = .ok (.aload_n 0, 1) := by decide +kernel
theorem dX12_readNew_1 : decode cX12_readNew 1 = .ok (.invokevirtual 166, 3) := by decide +kernel
theorem dX12_readNew_4 : decode cX12_readNew 4 = .ok (.ifCond .ne 9, 3) := by decide +kernel
theorem dX12_readNew_7 : decode cX12_readNew 7 = .ok (.aload_n 0, 1) := by decide +kernel
theorem dX12_readNew_8 : decode cX12_readNew 8 = .ok (.iconst 1, 1) := by decide +kernel
theorem dX12_readNew_9 : decode cX12_readNew 9 = .ok (.invokevirtual 146, 3) := by decide +kernel
theorem dX12_readNew_12 : decode cX12_readNew 12 = .ok (.ireturn, 1) := by decide +kernel
theorem dX12_readNew_13 : decode cX12_readNew 13 = .ok (.aload_n 0, 1) := by decide +kernel
theorem dX12_readNew_14 : decode cX12_readNew 14 = .ok (.getfield 32, 3) := by decide +kernel
theorem dX12_readNew_17 : decode cX12_readNew 17 = .ok (.iconst 0, 1) := by decide +kernel
theorem dX12_readNew_18 : decode cX12_readNew 18 = .ok (.aload_n 0, 1) := by decide +kernel
theorem dX12_readNew_19 : decode cX12_readNew 19 = .ok (.getfield 16, 3) := by decide +kernel
theorem dX12_readNew_22 : decode cX12_readNew 22 = .ok (.iconst 0, 1) := by decide +kernel
theorem dX12_readNew_23 : decode cX12_readNew 23 = .ok (.iaload, 1) := by decide +kernel
theorem dX12_readNew_24 : decode cX12_readNew 24 = .ok (.aload_n 0, 1) := by decide +kernel
theorem dX12_readNew_25 : decode cX12_readNew 25 = .ok (.getfield 117, 3) := by decide +kernel
theorem dX12_readNew_28 : decode cX12_readNew 28 = .ok (.invokestatic 170, 3) := by decide +kernel
theorem dX12_readNew_31 : decode cX12_readNew 31 = .ok (.iconst (-1), 1) := by decide +kernel
theorem dX12_readNew_32 : decode cX12_readNew 32 = .ok (.if_icmp .ne 26, 3) := by decide +kernel
theorem dX12_readNew_35 : decode cX12_readNew 35 = .ok (.aload_n 0, 1) := by decide +kernel
theorem dX12_readNew_36 : decode cX12_readNew 36 = .ok (.getfield 32, 3) := by decide +kernel
theorem dX12_readNew_39 : decode cX12_readNew 39 = .ok (.bipush 7, 2) := by decide +kernel
theorem dX12_readNew_41 : decode cX12_readNew 41 = .ok (.aload_n 0, 1) := by decide +kernel
theorem dX12_readNew_42 : decode cX12_readNew 42 = .ok (.getfield 16, 3) := by decide +kernel
theorem dX12_readNew_45 : decode cX12_readNew 45 = .ok (.iconst 1, 1) := by decide +kernel
theorem dX12_readNew_46 : decode cX12_readNew 46 = .ok (.iaload, 1) := by decide +kernel
theorem dX12_readNew_47 : decode cX12_readNew 47 = .ok (.aload_n 0, 1) := by decide +kernel
theorem dX12_readNew_48 : decode cX12_readNew 48 = .ok (.getfield 117, 3) := by decide +kernel
theorem dX12_readNew_51 : decode cX12_readNew 51 = .ok (.invokestatic 170, 3) := by decide +kernel
theorem dX12_readNew_54 : decode cX12_readNew 54 = .ok (.iconst (-1), 1) := by decide +kernel
theorem dX12_readNew_55 : decode cX12_readNew 55 = .ok (.if_icmp .eq 9, 3) := by decide +kernel
theorem dX12_readNew_58 : decode cX12_readNew 58 = .ok (.aload_n 0, 1) := by decide +kernel
theorem dX12_readNew_59 : decode cX12_readNew 59 = .ok (.iconst 3, 1) := by decide +kernel
theorem dX12_readNew_60 : decode cX12_readNew 60 = .ok (.invokevirtual 146, 3) := by decide +kernel
theorem dX12_readNew_63 : decode cX12_readNew 63 = .ok (.ireturn, 1) := by decide +kernel
theorem dX12_readNew_64 : decode cX12_readNew 64 = .ok (.aload_n 0, 1) := by decide +kernel
theorem dX12_readNew_65 : decode cX12_readNew 65 = .ok (.getfield 32, 3) := by decide +kernel
theorem dX12_readNew_68 : decode cX12_readNew 68 = .ok (.iload_n 1, 1) := by decide +kernel
theorem dX12_readNew_69 : decode cX12_readNew 69 = .ok (.aload_n 0, 1) := by decide +kernel
theorem dX12_readNew_70 : decode cX12_readNew 70 = .ok (.getfield 117, 3) := by decide +kernel
theorem dX12_readNew_73 : decode cX12_readNew 73 = .ok (.lastore, 1) := by decide +kernel
theorem dX12_readNew_74 : decode cX12_readNew 74 = .ok (.aload_n 0, 1) := by decide +kernel
theorem dX12_readNew_75 : decode cX12_readNew 75 = .ok (.invokevirtual 156, 3) := by decide +kernel
theorem dX12_readNew_78 : decode cX12_readNew 78 = .ok (.iconst 1, 1) := by decide +kernel
theorem dX12_readNew_79 : decode cX12_readNew 79 = .ok (.ireturn, 1) := by decide +kernel
theorem dX12_readNumber_0 : decode cX12_readNumber 0 = .ok (.aload_n 0, 1) := by decide +kernel
theorem dX12_readNumber_1 : decode cX12_readNumber 1 = .ok (.getfield 104, 3) := by decide +kernel
theorem dX12_readNumber_4 : decode cX12_readNumber 4 = .ok (.iconst 3, 1) := by decide +kernel
theorem dX12_readNumber_5 : decode cX12_readNumber 5 = .ok (.if_icmp .eq 9, 3) := by decide +kernel
theorem dX12_readNumber_8 : decode cX12_readNumber 8 = .ok (.aload_n 0, 1) := by decide +kernel
theorem dX12_readNumber_9 : decode cX12_readNumber 9 = .ok (.iconst 1, 1) := by decide +kernel
theorem dX12_readNumber_10 : decode cX12_readNumber 10 = .ok (.invokevirtual 146, 3) := by decide +kernel
theorem dX12_readNumber_13 : decode cX12_readNumber 13 = .ok (.ireturn, 1) := by decide +kernel
theorem dX12_readNumber_14 : decode cX12_readNumber 14 = .ok (.aload_n 0, 1) := by decide +kernel
theorem dX12_readNumber_15 : decode cX12_readNumber 15 = .ok (.getfield 121, 3) := by decide +kernel
theorem dX12_readNumber_18 : decode cX12_readNumber 18 = .ok (.iload_n 1, 1) := by decide +kernel
theorem dX12_readNumber_19 : decode cX12_readNumber 19 = .ok (.iload_n 2, 1) := by decide +kernel
theorem dX12_readNumber_20 : decode cX12_readNumber 20 = .ok (.invokestatic 149, 3) := by decide +kernel
theorem dX12_readNumber_23 : decode cX12_readNumber 23 = .ok (.ifCond .ne 9, 3) := by decide +kernel
theorem dX12_readNumber_26 : decode cX12_readNumber 26 = .ok (.aload_n 0, 1) := by decide +kernel
theorem dX12_readNumber_27 : decode cX12_readNumber 27 = .ok (.iconst 2, 1) := by decide +kernel
theorem dX12_readNumber_28 : decode cX12_readNumber 28 = .ok (.invokevirtual 146, 3) := by decide +kernel
theorem dX12_readNumber_31 : decode cX12_readNumber 31 = .ok (.ireturn, 1) := by decide +kernel
theorem dX12_readNumber_32 : decode cX12_readNumber 32 = .ok (.aload_n 0, 1) := by decide +kernel
theorem dX12_readNumber_33 : decode cX12_readNumber 33 = .ok (.aload_n 0, 1) := by decide +kernel
theorem dX12_readNumber_34 : decode cX12_readNumber 34 = .ok (.getfield 121, 3) := by decide +kernel
theorem dX12_readNumber_37 : decode cX12_readNumber 37 = .ok (.putfield 153, 3) := by decide +kernel
theorem dX12_readNumber_40 : decode cX12_readNumber 40 = .ok (.aload_n 0, 1) := by decide +kernel
theorem dX12_readNumber_41 : decode cX12_readNumber 41 = .ok (.invokevirtual 156, 3) := by decide +kernel
theorem dX12_readNumber_44 : decode cX12_readNumber 44 = .ok (.iconst 1, 1) := by decide +kernel
theorem dX12_readNumber_45 : decode cX12_readNumber 45 = .ok (.ireturn, 1) := by decide +kernel
set_option maxRecDepth 100000 in
set_option maxHeartbeats 8000000 in
theorem c_X12_isWord {l : Launch} {D : va_G} {cy : Nat → ClassId} {L : List Nat} {κ ln : Nat → Nat} {R : Nat → Nat → Option Nat} {I : Nat → Nat → Int32} {J : Nat → Nat → Int64} {ow : Nat → Nat × Nat} (W9 : ∀ a ∈ L, Shp L κ ln R ow a) {x : Nat} (hLx : x ∈ L) (hkx : κ x = 12) (a0 : Int32) (ra0 : Rg 0 27 a0) (hU : Iw L κ R ow I) : CtI l yX12_isWord cX12_isWord 2 (some .boolean) { frames := 2, cells := 0, slots := 0, locals := 48 } D cy L κ ln R I J [.ref x, .int a0] (fun r I2 J2 => I = I2 ∧ J = J2 ∧ Rg 0 1 r) := by
  refine CtI.of (by decide +kernel) (Nat.le_of_ble_eq_true rfl) ?_
  intro p e s m below meth c B K
  have C := B.1
  refine g_lo (is := [0, 1]) (lo2 := [(0, .ref x), (1, .int a0)]) rfl ?_
  refine g_aload_n C 0 dX12_isWord_0 rfl rfl ?_
  obtain ⟨x_1, hx_1, rx_1⟩ := ex_getw (I := I) (a := x) (j := 7) (lo := 0) (hi := 4) hU.1 hLx (ro_o hkx (by decide)) rfl
  refine g_getI C K hLx hkx f_12_104 (v := x_1) hx_1 dX12_isWord_1 ?_
  refine g_iconst C (v := 2) dX12_isWord_4 (by decide) ?_
  refine g_icmp_ne C (tgt := 24) dX12_isWord_5 (by decide) (fun h_2 => ?_) (fun h_2 => ?_)
  · skip
    have n_3 : ¬ x_1 = 2 := h_2
    refine g_iconst C (v := 0) dX12_isWord_24 (by decide) ?_
    exact g_zret (ty := .boolean) (r := 0) B K rfl (rfl) ⟨rfl, rfl, rg_w rc_0 (by decide) (by decide)⟩ dX12_isWord_25
  · skip
    have r_4 := (⟨(eq_rg (h_2) rc_2).1, (eq_rg (h_2) rc_2).2⟩ : Rg 2 2 x_1)
    refine g_aload_n C 0 dX12_isWord_8 rfl rfl ?_
    obtain ⟨y_5, hy_5⟩ : ∃ z, J x 12 = z := ⟨_, rfl⟩
    refine g_getJ C K hLx hkx f_12_117 (v := y_5) hy_5 dX12_isWord_9 ?_
    refine g_iload_n C 1 dX12_isWord_12 rfl rfl ?_
    refine g_callSL C K (c_X12_wordOf W9 a0 (ra0) hU) s_12_136 rfl ⟨rfl, rfl⟩ ⟨Nat.le_of_ble_eq_true rfl, Nat.le_of_ble_eq_true rfl⟩ (Nat.le_of_ble_eq_true rfl) ⟨Nat.le_of_ble_eq_true rfl, Nat.le_of_ble_eq_true rfl⟩ dX12_isWord_13 rfl (st := [.long y_5]) (fun x_6 I_7 J_8 h_9 => ?_)
    obtain ⟨rfl, rfl⟩ := h_9
    refine g_lcmp C dX12_isWord_16 (fun x_10 rx_10 => ?_)
    refine g_if_ne C (tgt := 24) dX12_isWord_17 (by decide) (fun h_11 => ?_) (fun h_11 => ?_)
    · skip
      have n_12 : ¬ x_10 = 0 := h_11
      refine g_iconst C (v := 0) dX12_isWord_24 (by decide) ?_
      exact g_zret (ty := .boolean) (r := 0) B K rfl (rfl) ⟨rfl, rfl, rg_w rc_0 (by decide) (by decide)⟩ dX12_isWord_25
    · skip
      have r_13 := (⟨(eq_rg (h_11) rc_0).1, (eq_rg (h_11) rc_0).2⟩ : Rg 0 0 x_10)
      refine g_iconst C (v := 1) dX12_isWord_20 (by decide) ?_
      refine g_goto C (tgt := 25) dX12_isWord_21 (by decide) ?_
      exact g_zret (ty := .boolean) (r := 1) B K rfl (rfl) ⟨rfl, rfl, rg_w rc_1 (by decide) (by decide)⟩ dX12_isWord_25
set_option maxRecDepth 100000 in
set_option maxHeartbeats 8000000 in
theorem c_X12_put_3_3 {l : Launch} {D : va_G} {cy : Nat → ClassId} {L : List Nat} {κ ln : Nat → Nat} {R : Nat → Nat → Option Nat} {I : Nat → Nat → Int32} {J : Nat → Nat → Int64} {ow : Nat → Nat × Nat} (W9 : ∀ a ∈ L, Shp L κ ln R ow a) {x : Nat} (hLx : x ∈ L) (hkx : κ x = 12) (a0 : Int32) (a1 : Int32) (ra0 : Rg 3 3 a0) (ra1 : Rg 0 1 a1) (hU : Iw L κ R ow I) (hg : ¬ a1 = 0 → Rg 0 9 (I x 13)) : CtI l yX12_put cX12_put 3 (some .boolean) { frames := 0, cells := 0, slots := 0, locals := 0 } D cy L κ ln R I J [.ref x, .int a0, .int a1] (fun r I2 J2 => Iw L κ R ow I2 ∧ Fq L κ ow [83500] I I2 ∧ Fq L κ ow [] J J2 ∧ Rg 0 1 r ∧ r = a1 ∧ (∀ a, R x 15 = some a → I2 a 0 = I a 0 ∧ I2 a 1 = I a 1)) := by
  refine CtI.of (by decide +kernel) (Nat.le_of_ble_eq_true rfl) ?_
  intro p e s m below meth c B K
  have C := B.1
  have hF : Fq L κ ow [83500] I I := fq_rf
  have hG : Fq L κ ow [] J J := fq_rf
  obtain ⟨b_1, hb_1, hb_1L, hb_1k, hb_1n, hb_1o⟩ := shp_a (W9 x hLx) hkx 15 14 72 rfl (by decide)
  refine g_lo (is := [0, 1, 2]) (lo2 := [(0, .ref x), (1, .int a0), (2, .int a1)]) rfl ?_
  refine g_iload_n C 2 dX12_put_0 rfl rfl ?_
  refine g_if_eq C (tgt := 14) dX12_put_1 (by decide) (fun h_2 => ?_) (fun h_2 => ?_)
  · skip
    have r_3 := (⟨(ra1).1, (eq_rg (h_2) rc_0).2⟩ : Rg 0 0 a1)
    refine g_iload_n C 2 dX12_put_14 rfl rfl ?_
    exact g_zret (ty := .boolean) (r := a1) B K rfl (nar_z (rg_w r_3 (by decide) (by decide))) ⟨hU, hF, hG, rg_w r_3 (by decide) (by decide), rfl, (fun a ha => ⟨rfl, rfl⟩)⟩ dX12_put_15
  · skip
    have n_4 : ¬ a1 = 0 := h_2
    have r_5 := ne_lo (lo := 1) n_4 ra1 rc_0 rfl (by decide)
    obtain ⟨x_6, hx_6, rx_6⟩ := ex_getw (I := I) (a := x) (j := 13) (lo := (-2147483648)) (hi := 2147483647) hU.1 hLx (ro_o hkx (by decide)) rfl
    have r_7 := rg_i rx_6 (eq_rg hx_6.symm (hg n_4)) (lo := 0) (hi := 9) (by decide) (by decide)
    refine g_aload_n C 0 dX12_put_4 rfl rfl ?_
    refine g_getR C K hLx hkx f_12_16 hb_1 dX12_put_5 ?_
    refine g_iload_n C 1 dX12_put_8 rfl rfl ?_
    refine g_aload_n C 0 dX12_put_9 rfl rfl ?_
    refine g_getI C K hLx hkx f_12_153 (v := x_6) hx_6 dX12_put_10 ?_
    refine h_iast C K hb_1L hb_1k (a0.toNatClampNeg) (rfl) (ix_0 ra0 (by decide)) (ix_lt ra0 (by decide) hb_1n (by decide)) dX12_put_13 (fun I_8 hI_8 => ?_)
    have hU_9 := iw_put W9 hU hI_8 (ro_a hb_1k (by decide) hb_1o hkx rfl) (lo := 0) (hi := 9) (bn_835.trans (zq_3 (ix_k (lo := 3) (hi := 3) ra0 (by decide) (by decide) (by decide)))) (r_7) rfl
    have hF_10 := fq_puta hF hI_8 (ro_a hb_1k (by decide) hb_1o hkx rfl) (by decide) (by decide)
    refine g_iload_n C 2 dX12_put_14 rfl rfl ?_
    exact g_zret (ty := .boolean) (r := a1) B K rfl (nar_z (rg_w r_5 (by decide) (by decide))) ⟨hU_9, hF_10, hG, rg_w r_5 (by decide) (by decide), rfl, (fun a ha => by rw [hb_1] at ha; cases ha; exact ⟨kp_j hI_8 (ix_ne ra0 (by decide)) rfl, kp_j hI_8 (ix_ne ra0 (by decide)) rfl⟩)⟩ dX12_put_15
set_option maxRecDepth 100000 in
set_option maxHeartbeats 8000000 in
theorem c_X12_put_18_23 {l : Launch} {D : va_G} {cy : Nat → ClassId} {L : List Nat} {κ ln : Nat → Nat} {R : Nat → Nat → Option Nat} {I : Nat → Nat → Int32} {J : Nat → Nat → Int64} {ow : Nat → Nat × Nat} (W9 : ∀ a ∈ L, Shp L κ ln R ow a) {x : Nat} (hLx : x ∈ L) (hkx : κ x = 12) (a0 : Int32) (a1 : Int32) (ra0 : Rg 18 23 a0) (ra1 : Rg 0 1 a1) (hU : Iw L κ R ow I) (hg : ¬ a1 = 0 → Rg 0 99 (I x 13)) : CtI l yX12_put cX12_put 3 (some .boolean) { frames := 0, cells := 0, slots := 0, locals := 0 } D cy L κ ln R I J [.ref x, .int a0, .int a1] (fun r I2 J2 => Iw L κ R ow I2 ∧ Fq L κ ow [83500] I I2 ∧ Fq L κ ow [] J J2 ∧ Rg 0 1 r ∧ r = a1 ∧ (∀ a, R x 15 = some a → I2 a 0 = I a 0 ∧ I2 a 1 = I a 1)) := by
  refine CtI.of (by decide +kernel) (Nat.le_of_ble_eq_true rfl) ?_
  intro p e s m below meth c B K
  have C := B.1
  have hF : Fq L κ ow [83500] I I := fq_rf
  have hG : Fq L κ ow [] J J := fq_rf
  obtain ⟨b_1, hb_1, hb_1L, hb_1k, hb_1n, hb_1o⟩ := shp_a (W9 x hLx) hkx 15 14 72 rfl (by decide)
  refine g_lo (is := [0, 1, 2]) (lo2 := [(0, .ref x), (1, .int a0), (2, .int a1)]) rfl ?_
  refine g_iload_n C 2 dX12_put_0 rfl rfl ?_
  refine g_if_eq C (tgt := 14) dX12_put_1 (by decide) (fun h_2 => ?_) (fun h_2 => ?_)
  · skip
    have r_3 := (⟨(ra1).1, (eq_rg (h_2) rc_0).2⟩ : Rg 0 0 a1)
    refine g_iload_n C 2 dX12_put_14 rfl rfl ?_
    exact g_zret (ty := .boolean) (r := a1) B K rfl (nar_z (rg_w r_3 (by decide) (by decide))) ⟨hU, hF, hG, rg_w r_3 (by decide) (by decide), rfl, (fun a ha => ⟨rfl, rfl⟩)⟩ dX12_put_15
  · skip
    have n_4 : ¬ a1 = 0 := h_2
    have r_5 := ne_lo (lo := 1) n_4 ra1 rc_0 rfl (by decide)
    obtain ⟨x_6, hx_6, rx_6⟩ := ex_getw (I := I) (a := x) (j := 13) (lo := (-2147483648)) (hi := 2147483647) hU.1 hLx (ro_o hkx (by decide)) rfl
    have r_7 := rg_i rx_6 (eq_rg hx_6.symm (hg n_4)) (lo := 0) (hi := 99) (by decide) (by decide)
    refine g_aload_n C 0 dX12_put_4 rfl rfl ?_
    refine g_getR C K hLx hkx f_12_16 hb_1 dX12_put_5 ?_
    refine g_iload_n C 1 dX12_put_8 rfl rfl ?_
    refine g_aload_n C 0 dX12_put_9 rfl rfl ?_
    refine g_getI C K hLx hkx f_12_153 (v := x_6) hx_6 dX12_put_10 ?_
    refine h_iast C K hb_1L hb_1k (a0.toNatClampNeg) (rfl) (ix_0 ra0 (by decide)) (ix_lt ra0 (by decide) hb_1n (by decide)) dX12_put_13 (fun I_8 hI_8 => ?_)
    have hU_9 := iw_put W9 hU hI_8 (ro_a hb_1k (by decide) hb_1o hkx rfl) (lo := 0) (hi := 99) (bn_835.trans (zq_18 (ix_k (lo := 18) (hi := 23) ra0 (by decide) (by decide) (by decide)))) (r_7) rfl
    have hF_10 := fq_puta hF hI_8 (ro_a hb_1k (by decide) hb_1o hkx rfl) (by decide) (by decide)
    refine g_iload_n C 2 dX12_put_14 rfl rfl ?_
    exact g_zret (ty := .boolean) (r := a1) B K rfl (nar_z (rg_w r_5 (by decide) (by decide))) ⟨hU_9, hF_10, hG, rg_w r_5 (by decide) (by decide), rfl, (fun a ha => by rw [hb_1] at ha; cases ha; exact ⟨kp_j hI_8 (ix_ne ra0 (by decide)) rfl, kp_j hI_8 (ix_ne ra0 (by decide)) rfl⟩)⟩ dX12_put_15
set_option maxRecDepth 100000 in
set_option maxHeartbeats 8000000 in
theorem c_X12_put_24_29 {l : Launch} {D : va_G} {cy : Nat → ClassId} {L : List Nat} {κ ln : Nat → Nat} {R : Nat → Nat → Option Nat} {I : Nat → Nat → Int32} {J : Nat → Nat → Int64} {ow : Nat → Nat × Nat} (W9 : ∀ a ∈ L, Shp L κ ln R ow a) {x : Nat} (hLx : x ∈ L) (hkx : κ x = 12) (a0 : Int32) (a1 : Int32) (ra0 : Rg 24 29 a0) (ra1 : Rg 0 1 a1) (hU : Iw L κ R ow I) (hg : ¬ a1 = 0 → Rg 0 9 (I x 13)) : CtI l yX12_put cX12_put 3 (some .boolean) { frames := 0, cells := 0, slots := 0, locals := 0 } D cy L κ ln R I J [.ref x, .int a0, .int a1] (fun r I2 J2 => Iw L κ R ow I2 ∧ Fq L κ ow [83500] I I2 ∧ Fq L κ ow [] J J2 ∧ Rg 0 1 r ∧ r = a1 ∧ (∀ a, R x 15 = some a → I2 a 0 = I a 0 ∧ I2 a 1 = I a 1)) := by
  refine CtI.of (by decide +kernel) (Nat.le_of_ble_eq_true rfl) ?_
  intro p e s m below meth c B K
  have C := B.1
  have hF : Fq L κ ow [83500] I I := fq_rf
  have hG : Fq L κ ow [] J J := fq_rf
  obtain ⟨b_1, hb_1, hb_1L, hb_1k, hb_1n, hb_1o⟩ := shp_a (W9 x hLx) hkx 15 14 72 rfl (by decide)
  refine g_lo (is := [0, 1, 2]) (lo2 := [(0, .ref x), (1, .int a0), (2, .int a1)]) rfl ?_
  refine g_iload_n C 2 dX12_put_0 rfl rfl ?_
  refine g_if_eq C (tgt := 14) dX12_put_1 (by decide) (fun h_2 => ?_) (fun h_2 => ?_)
  · skip
    have r_3 := (⟨(ra1).1, (eq_rg (h_2) rc_0).2⟩ : Rg 0 0 a1)
    refine g_iload_n C 2 dX12_put_14 rfl rfl ?_
    exact g_zret (ty := .boolean) (r := a1) B K rfl (nar_z (rg_w r_3 (by decide) (by decide))) ⟨hU, hF, hG, rg_w r_3 (by decide) (by decide), rfl, (fun a ha => ⟨rfl, rfl⟩)⟩ dX12_put_15
  · skip
    have n_4 : ¬ a1 = 0 := h_2
    have r_5 := ne_lo (lo := 1) n_4 ra1 rc_0 rfl (by decide)
    obtain ⟨x_6, hx_6, rx_6⟩ := ex_getw (I := I) (a := x) (j := 13) (lo := (-2147483648)) (hi := 2147483647) hU.1 hLx (ro_o hkx (by decide)) rfl
    have r_7 := rg_i rx_6 (eq_rg hx_6.symm (hg n_4)) (lo := 0) (hi := 9) (by decide) (by decide)
    refine g_aload_n C 0 dX12_put_4 rfl rfl ?_
    refine g_getR C K hLx hkx f_12_16 hb_1 dX12_put_5 ?_
    refine g_iload_n C 1 dX12_put_8 rfl rfl ?_
    refine g_aload_n C 0 dX12_put_9 rfl rfl ?_
    refine g_getI C K hLx hkx f_12_153 (v := x_6) hx_6 dX12_put_10 ?_
    refine h_iast C K hb_1L hb_1k (a0.toNatClampNeg) (rfl) (ix_0 ra0 (by decide)) (ix_lt ra0 (by decide) hb_1n (by decide)) dX12_put_13 (fun I_8 hI_8 => ?_)
    have hU_9 := iw_put W9 hU hI_8 (ro_a hb_1k (by decide) hb_1o hkx rfl) (lo := 0) (hi := 9) (bn_835.trans (zq_24 (ix_k (lo := 24) (hi := 29) ra0 (by decide) (by decide) (by decide)))) (r_7) rfl
    have hF_10 := fq_puta hF hI_8 (ro_a hb_1k (by decide) hb_1o hkx rfl) (by decide) (by decide)
    refine g_iload_n C 2 dX12_put_14 rfl rfl ?_
    exact g_zret (ty := .boolean) (r := a1) B K rfl (nar_z (rg_w r_5 (by decide) (by decide))) ⟨hU_9, hF_10, hG, rg_w r_5 (by decide) (by decide), rfl, (fun a ha => by rw [hb_1] at ha; cases ha; exact ⟨kp_j hI_8 (ix_ne ra0 (by decide)) rfl, kp_j hI_8 (ix_ne ra0 (by decide)) rfl⟩)⟩ dX12_put_15
set_option maxRecDepth 100000 in
set_option maxHeartbeats 8000000 in
theorem c_X12_readFirst_1_6 {l : Launch} {D : va_G} {cy : Nat → ClassId} {L : List Nat} {κ ln : Nat → Nat} {R : Nat → Nat → Option Nat} {I : Nat → Nat → Int32} {J : Nat → Nat → Int64} {ow : Nat → Nat × Nat} (W9 : ∀ a ∈ L, Shp L κ ln R ow a) {x : Nat} (hLx : x ∈ L) (hkx : κ x = 12) (hU : Iw L κ R ow I) : CtI l yX12_readFirst cX12_readFirst 3 (some .boolean) { frames := 2, cells := 0, slots := 0, locals := 45 } D cy L κ ln R I J [.ref x, .int 1, .int 6] (fun r I2 J2 => Iw L κ R ow I2 ∧ Fq L κ ow [1205, 1206, 1207, 1208, 1209, 1210, 1211] I I2 ∧ Fq L κ ow [1212] J J2 ∧ Rg 0 1 r ∧ (Pg_ x I I2 ∧ (¬ r = 0 → Ps_ x I I2)) ∧ (¬ r = 0 → ∀ a, R x 15 = some a → Rg 0 5 (I2 a 1))) := by
  refine CtI.of (by decide +kernel) (Nat.le_of_ble_eq_true rfl) ?_
  intro p e s m below meth c B K
  have C := B.1
  have hF : Fq L κ ow [1205, 1206, 1207, 1208, 1209, 1210, 1211] I I := fq_rf
  have hG : Fq L κ ow [1212] J J := fq_rf
  obtain ⟨b_1, hb_1, hb_1L, hb_1k, hb_1n, hb_1o⟩ := shp_a (W9 x hLx) hkx 15 14 72 rfl (by decide)
  refine g_lo (is := [0, 1, 2]) (lo2 := [(0, .ref x), (1, .int 1), (2, .int 6)]) rfl ?_
  refine g_aload_n C 0 dX12_readFirst_0 rfl rfl ?_
  refine g_getR C K hLx hkx f_12_16 hb_1 dX12_readFirst_1 ?_
  refine g_iload_n C 1 dX12_readFirst_4 rfl rfl ?_
  obtain ⟨x_2, hx_2, rx_2⟩ := ex_getw (I := I) (a := b_1) (j := 1) (lo := 0) (hi := 6) hU.1 hb_1L (ro_a hb_1k (by decide) hb_1o hkx rfl) (by decide)
  refine h_iald C K hb_1L hb_1k (v := x_2) (1) (by decide) (by decide) (by rw [hb_1n]; decide) hx_2 dX12_readFirst_5 ?_
  refine g_iload_n C 2 dX12_readFirst_6 rfl rfl ?_
  refine g_icmp_ne C (tgt := 16) dX12_readFirst_7 (by decide) (fun h_3 => ?_) (fun h_3 => ?_)
  · skip
    have n_4 : ¬ x_2 = 6 := h_3
    have r_5 := ne_hi (hi := 5) n_4 rx_2 rc_6 rfl (by decide)
    refine g_aload_n C 0 dX12_readFirst_16 rfl rfl ?_
    refine g_callVV C K (c_X12_go W9 hLx hkx   hU) hLx hkx (by decide) rfl v_12_156 rfl ⟨rfl, rfl⟩ ⟨Nat.le_of_ble_eq_true rfl, Nat.le_of_ble_eq_true rfl⟩ (Nat.le_of_ble_eq_true rfl) ⟨Nat.le_of_ble_eq_true rfl, Nat.le_of_ble_eq_true rfl⟩ dX12_readFirst_17 rfl (st := []) (fun I_7 J_8 h_9 => ?_)
    obtain ⟨hUI_7, hFI_7, hGJ_8, ex_6⟩ := h_9
    have hF_10 := fq_tr hF hFI_7 (by decide)
    have hG_11 := fq_tr hG hGJ_8 (by decide)
    refine g_iconst C (v := 1) dX12_readFirst_20 (by decide) ?_
    exact g_zret (ty := .boolean) (r := 1) B K rfl (rfl) ⟨hUI_7, hF_10, hG_11, rg_w rc_1 (by decide) (by decide), ⟨(pg_s (ps_t2 pg_rf ex_6)), fun _ => (ps_t2 pg_rf ex_6)⟩, (fun _ => fun a ha => by rw [hb_1] at ha; cases ha; exact eq_rg (fq_ar hFI_7 hb_1L (ro_a hb_1k (by decide) hb_1o hkx rfl) (by decide) (by decide) hx_2) (r_5))⟩ dX12_readFirst_21
  · skip
    have r_12 := (⟨(eq_rg (h_3) rc_6).1, (rx_2).2⟩ : Rg 6 6 x_2)
    refine g_aload_n C 0 dX12_readFirst_10 rfl rfl ?_
    refine g_iconst C (v := 4) dX12_readFirst_11 (by decide) ?_
    refine g_callVI C K (c_X12_bad W9 hLx hkx 4 (rg_w rc_4 (by decide) (by decide)) hU) hLx hkx (by decide) rfl v_12_146 rfl ⟨rfl, rfl⟩ ⟨Nat.le_of_ble_eq_true rfl, Nat.le_of_ble_eq_true rfl⟩ (Nat.le_of_ble_eq_true rfl) ⟨Nat.le_of_ble_eq_true rfl, Nat.le_of_ble_eq_true rfl⟩ dX12_readFirst_12 rfl (st := []) (fun x_13 I_14 J_15 h_16 => ?_)
    obtain ⟨hUI_14, hFI_14, hGJ_15, rx_13⟩ := h_16
    have hF_17 := fq_tr hF hFI_14 (by decide)
    have hG_18 := fq_tr hG hGJ_15 (by decide)
    exact g_zret (ty := .boolean) (r := x_13) B K rfl (nar_z (rg_w rx_13 (by decide) (by decide))) ⟨hUI_14, hF_17, hG_18, rg_w rx_13 (by decide) (by decide), ⟨(pg_fq pg_rf hFI_14 hLx hkx (by decide) (by decide)), fun q => ne_no q rx_13 rc_0⟩, (fun q => ne_no q rx_13 rc_0)⟩ dX12_readFirst_15
set_option maxRecDepth 100000 in
set_option maxHeartbeats 8000000 in
theorem c_X12_findIn_0 {l : Launch} {D : va_G} {cy : Nat → ClassId} {L : List Nat} {κ ln : Nat → Nat} {R : Nat → Nat → Option Nat} {I : Nat → Nat → Int32} {J : Nat → Nat → Int64} {ow : Nat → Nat × Nat} (W9 : ∀ a ∈ L, Shp L κ ln R ow a) {a0 : Nat} (hLa0 : a0 ∈ L) (hka0 : κ a0 = 15) (hna0 : ln a0 = 13) (a2 : Int32) (a3 : Int64) (ra2 : Rg 0 7 a2) (hU : Iw L κ R ow I) : CtI l yX12_findIn cX12_findIn 6 (some .int) { frames := 0, cells := 0, slots := 0, locals := 0 } D cy L κ ln R I J [.ref a0, .int 0, .int a2, .long a3] (fun r I2 J2 => I = I2 ∧ J = J2 ∧ Rg (-1) 6 r ∧ ((r = (-1) → ∀ k : Nat, (k : Int) < a2.toInt → ¬ J a0 (0 + k) = a3) ∧ (¬ r = (-1) → ∃ k : Nat, (k : Int) < a2.toInt ∧ J a0 (0 + k) = a3))) := by
  refine CtI.of (by decide +kernel) (Nat.le_of_ble_eq_true rfl) ?_
  intro p e s m below meth c B K
  have C := B.1
  refine g_lo (is := [0, 1, 2, 3]) (lo2 := [(0, .ref a0), (1, .int 0), (2, .int a2), (3, .long a3)]) rfl ?_
  have l_3 : ∀ (n_3 : Nat) (v_1 : Int32) (rv_1 : Rg 0 7 v_1) (hj_2 : ∀ j : Nat, (j : Int) < v_1.toInt → ¬ J a0 (0 + j) = a3) (hm_3 : 7 < (v_1 : Int32).toInt + (n_3 : Int)), WG p l e { frames := 0, cells := 0, slots := 0, locals := 0 } s m ([.ref a0, .int 0, .int a2, .long a3] : List Value).toArray below meth c 6 0 0 (MQ below (Qi_ D cy L κ ln R (fun r I2 J2 => I = I2 ∧ J = J2 ∧ Rg (-1) 6 r ∧ ((r = (-1) → ∀ k : Nat, (k : Int) < a2.toInt → ¬ J a0 (0 + k) = a3) ∧ (¬ r = (-1) → ∃ k : Nat, (k : Int) < a2.toInt ∧ J a0 (0 + k) = a3)))) ([.ref a0, .int 0, .int a2, .long a3] : List Value).toArray s 0 0 (Al_ L)) D cy (Al_ L) s.heap L κ ln R I J 3 [(0, .ref a0), (1, .int 0), (2, .int a2), (3, .long a3), (5, .int v_1)] [] := by
    intro n_3
    induction n_3 with
    | zero =>
      intro v_1 rv_1 hj_2 hm_3
      exact ms_0 rv_1 hm_3
    | succ n_3 ih_3 =>
      intro v_1 rv_1 hj_2 hm_3
      refine g_iload C 4 dX12_findIn_3 rfl ?_
      refine g_iload_n C 2 dX12_findIn_5 rfl rfl ?_
      refine g_icmp_ge C (tgt := 29) dX12_findIn_6 (by decide) (fun h_4 => ?_) (fun h_4 => ?_)
      · skip
        refine g_iconst C (v := (-1)) dX12_findIn_29 (by decide) ?_
        exact g_zret (ty := .int) (r := (-1)) B K rfl (rfl) ⟨rfl, rfl, rg_w rc_m1 (by decide) (by decide), ⟨fun _ j hj => hj_2 j (Int.lt_of_lt_of_le hj (Int32.le_iff_toInt_le.mp (h_4))), fun q => absurd rfl q⟩⟩ dX12_findIn_30
      · skip
        have r_5 := lt_l (hi := 6) (nle h_4) rv_1 ra2 (by decide)
        have r_6 := lt_r (lo := 1) (nle h_4) rv_1 ra2 (by decide)
        refine g_aload_n C 0 dX12_findIn_9 rfl rfl ?_
        refine g_iload_n C 1 dX12_findIn_10 rfl rfl ?_
        refine g_iload C 4 dX12_findIn_11 rfl ?_
        obtain ⟨x_7, hx_7, rx_7, tx_7⟩ := ex_add 0 6 rc_0 r_5 (by decide) (by decide) (by decide) (by decide)
        refine g_iadd C (v := x_7) dX12_findIn_13 hx_7 ?_
        obtain ⟨y_8, hy_8⟩ : ∃ z, J a0 (x_7.toNatClampNeg) = z := ⟨_, rfl⟩
        refine h_lald C K hLa0 hka0 (v := y_8) (x_7.toNatClampNeg) (rfl) (ix_0 rx_7 (by decide)) (ix_lt rx_7 (by decide) hna0 (by decide)) hy_8 dX12_findIn_14 ?_
        refine g_lload_n C 3 dX12_findIn_15 rfl rfl ?_
        refine g_lcmpE C dX12_findIn_16 (fun x_9 rx_9 qx_9 => ?_)
        refine g_if_ne C (tgt := 23) dX12_findIn_17 (by decide) (fun h_10 => ?_) (fun h_10 => ?_)
        · skip
          have n_11 : ¬ x_9 = 0 := h_10
          obtain ⟨x_12, hx_12, rx_12, tx_12⟩ := ex_add (y := 1) 1 7 r_5 rc_1 (by decide) (by decide) (by decide) (by decide)
          refine g_iinc C dX12_findIn_23 (k := 4) (v := x_12) rfl hx_12 (by decide) (lo2 := [(5, .int x_12), (0, .ref a0), (1, .int 0), (2, .int a2), (3, .long a3)]) rfl ?_
          refine g_goto C (tgt := 3) dX12_findIn_26 (by decide) ?_
          refine g_lo (is := [1, 2, 3, 4, 0]) (lo2 := [(0, .ref a0), (1, .int 0), (2, .int a2), (3, .long a3), (5, .int x_12)]) rfl ?_
          exact ih_3 x_12 (rg_w rx_12 (by decide) (by decide)) (fun j hj => by by_cases q : (j : Int) < v_1.toInt; exact hj_2 j q; have q1 := ix_n r_5 (by decide); have q2 := (ti_k tx_12 rc_1); rw [show 0 + j = x_7.toNatClampNeg from by have q3 := (show x_7.toNatClampNeg = 0 + v_1.toNatClampNeg from by rw [nx_a tx_7 rc_0 r_5 (by decide)]; simp only [show (0 : Int32).toNatClampNeg = 0 from rfl] <;> omega); omega]; exact (fun q => n_11 (qx_9.mpr (Eq.trans hy_8.symm q)))) (ms_1 hm_3 (ti_k tx_12 rc_1) (by decide))
        · skip
          have r_13 := (⟨(eq_rg (h_10) rc_0).1, (eq_rg (h_10) rc_0).2⟩ : Rg 0 0 x_9)
          refine g_iload C 4 dX12_findIn_20 rfl ?_
          exact g_zret (ty := .int) (r := v_1) B K rfl (rfl) ⟨rfl, rfl, rg_w r_5 (by decide) (by decide), ⟨fun q => absurd q (rg_nek r_5 rc_m1 (by decide)), fun _ => ⟨v_1.toNatClampNeg, by rw [ix_n r_5 (by decide)]; exact Int32.lt_iff_toInt_lt.mp (nle h_4), by rw [← (show x_7.toNatClampNeg = 0 + v_1.toNatClampNeg from by rw [nx_a tx_7 rc_0 r_5 (by decide)]; simp only [show (0 : Int32).toNatClampNeg = 0 from rfl] <;> omega), hy_8]; exact qx_9.mp (rg_1k r_13 rc_0)⟩⟩⟩ dX12_findIn_22
  refine g_iconst C (v := 0) dX12_findIn_0 (by decide) ?_
  refine g_istore C dX12_findIn_1 (by decide) (lo2 := [(5, .int 0), (0, .ref a0), (1, .int 0), (2, .int a2), (3, .long a3)]) rfl ?_
  refine g_lo (is := [1, 2, 3, 4, 0]) (lo2 := [(0, .ref a0), (1, .int 0), (2, .int a2), (3, .long a3), (5, .int 0)]) rfl ?_
  exact l_3 8 0 (rg_w rc_0 (by decide) (by decide)) (fun j hj => by rw [show (0 : Int32).toInt = 0 from by decide] at hj; omega) (ms_s (a := 0) (b := 7) (N := 8) (rg_w rc_0 (by decide) (by decide)) (by decide))
set_option maxRecDepth 100000 in
set_option maxHeartbeats 8000000 in
theorem c_X12_findIn_7 {l : Launch} {D : va_G} {cy : Nat → ClassId} {L : List Nat} {κ ln : Nat → Nat} {R : Nat → Nat → Option Nat} {I : Nat → Nat → Int32} {J : Nat → Nat → Int64} {ow : Nat → Nat × Nat} (W9 : ∀ a ∈ L, Shp L κ ln R ow a) {a0 : Nat} (hLa0 : a0 ∈ L) (hka0 : κ a0 = 15) (hna0 : ln a0 = 13) (a2 : Int32) (a3 : Int64) (ra2 : Rg 0 6 a2) (hU : Iw L κ R ow I) : CtI l yX12_findIn cX12_findIn 6 (some .int) { frames := 0, cells := 0, slots := 0, locals := 0 } D cy L κ ln R I J [.ref a0, .int 7, .int a2, .long a3] (fun r I2 J2 => I = I2 ∧ J = J2 ∧ Rg (-1) 5 r ∧ ((r = (-1) → ∀ k : Nat, (k : Int) < a2.toInt → ¬ J a0 (7 + k) = a3) ∧ (¬ r = (-1) → ∃ k : Nat, (k : Int) < a2.toInt ∧ J a0 (7 + k) = a3))) := by
  refine CtI.of (by decide +kernel) (Nat.le_of_ble_eq_true rfl) ?_
  intro p e s m below meth c B K
  have C := B.1
  refine g_lo (is := [0, 1, 2, 3]) (lo2 := [(0, .ref a0), (1, .int 7), (2, .int a2), (3, .long a3)]) rfl ?_
  have l_3 : ∀ (n_3 : Nat) (v_1 : Int32) (rv_1 : Rg 0 6 v_1) (hj_2 : ∀ j : Nat, (j : Int) < v_1.toInt → ¬ J a0 (7 + j) = a3) (hm_3 : 6 < (v_1 : Int32).toInt + (n_3 : Int)), WG p l e { frames := 0, cells := 0, slots := 0, locals := 0 } s m ([.ref a0, .int 7, .int a2, .long a3] : List Value).toArray below meth c 6 0 0 (MQ below (Qi_ D cy L κ ln R (fun r I2 J2 => I = I2 ∧ J = J2 ∧ Rg (-1) 5 r ∧ ((r = (-1) → ∀ k : Nat, (k : Int) < a2.toInt → ¬ J a0 (7 + k) = a3) ∧ (¬ r = (-1) → ∃ k : Nat, (k : Int) < a2.toInt ∧ J a0 (7 + k) = a3)))) ([.ref a0, .int 7, .int a2, .long a3] : List Value).toArray s 0 0 (Al_ L)) D cy (Al_ L) s.heap L κ ln R I J 3 [(0, .ref a0), (1, .int 7), (2, .int a2), (3, .long a3), (5, .int v_1)] [] := by
    intro n_3
    induction n_3 with
    | zero =>
      intro v_1 rv_1 hj_2 hm_3
      exact ms_0 rv_1 hm_3
    | succ n_3 ih_3 =>
      intro v_1 rv_1 hj_2 hm_3
      refine g_iload C 4 dX12_findIn_3 rfl ?_
      refine g_iload_n C 2 dX12_findIn_5 rfl rfl ?_
      refine g_icmp_ge C (tgt := 29) dX12_findIn_6 (by decide) (fun h_4 => ?_) (fun h_4 => ?_)
      · skip
        refine g_iconst C (v := (-1)) dX12_findIn_29 (by decide) ?_
        exact g_zret (ty := .int) (r := (-1)) B K rfl (rfl) ⟨rfl, rfl, rg_w rc_m1 (by decide) (by decide), ⟨fun _ j hj => hj_2 j (Int.lt_of_lt_of_le hj (Int32.le_iff_toInt_le.mp (h_4))), fun q => absurd rfl q⟩⟩ dX12_findIn_30
      · skip
        have r_5 := lt_l (hi := 5) (nle h_4) rv_1 ra2 (by decide)
        have r_6 := lt_r (lo := 1) (nle h_4) rv_1 ra2 (by decide)
        refine g_aload_n C 0 dX12_findIn_9 rfl rfl ?_
        refine g_iload_n C 1 dX12_findIn_10 rfl rfl ?_
        refine g_iload C 4 dX12_findIn_11 rfl ?_
        obtain ⟨x_7, hx_7, rx_7, tx_7⟩ := ex_add 7 12 rc_7 r_5 (by decide) (by decide) (by decide) (by decide)
        refine g_iadd C (v := x_7) dX12_findIn_13 hx_7 ?_
        obtain ⟨y_8, hy_8⟩ : ∃ z, J a0 (x_7.toNatClampNeg) = z := ⟨_, rfl⟩
        refine h_lald C K hLa0 hka0 (v := y_8) (x_7.toNatClampNeg) (rfl) (ix_0 rx_7 (by decide)) (ix_lt rx_7 (by decide) hna0 (by decide)) hy_8 dX12_findIn_14 ?_
        refine g_lload_n C 3 dX12_findIn_15 rfl rfl ?_
        refine g_lcmpE C dX12_findIn_16 (fun x_9 rx_9 qx_9 => ?_)
        refine g_if_ne C (tgt := 23) dX12_findIn_17 (by decide) (fun h_10 => ?_) (fun h_10 => ?_)
        · skip
          have n_11 : ¬ x_9 = 0 := h_10
          obtain ⟨x_12, hx_12, rx_12, tx_12⟩ := ex_add (y := 1) 1 6 r_5 rc_1 (by decide) (by decide) (by decide) (by decide)
          refine g_iinc C dX12_findIn_23 (k := 4) (v := x_12) rfl hx_12 (by decide) (lo2 := [(5, .int x_12), (0, .ref a0), (1, .int 7), (2, .int a2), (3, .long a3)]) rfl ?_
          refine g_goto C (tgt := 3) dX12_findIn_26 (by decide) ?_
          refine g_lo (is := [1, 2, 3, 4, 0]) (lo2 := [(0, .ref a0), (1, .int 7), (2, .int a2), (3, .long a3), (5, .int x_12)]) rfl ?_
          exact ih_3 x_12 (rg_w rx_12 (by decide) (by decide)) (fun j hj => by by_cases q : (j : Int) < v_1.toInt; exact hj_2 j q; have q1 := ix_n r_5 (by decide); have q2 := (ti_k tx_12 rc_1); rw [show 7 + j = x_7.toNatClampNeg from by have q3 := (show x_7.toNatClampNeg = 7 + v_1.toNatClampNeg from by rw [nx_a tx_7 rc_7 r_5 (by decide)]; simp only [show (7 : Int32).toNatClampNeg = 7 from rfl] <;> omega); omega]; exact (fun q => n_11 (qx_9.mpr (Eq.trans hy_8.symm q)))) (ms_1 hm_3 (ti_k tx_12 rc_1) (by decide))
        · skip
          have r_13 := (⟨(eq_rg (h_10) rc_0).1, (eq_rg (h_10) rc_0).2⟩ : Rg 0 0 x_9)
          refine g_iload C 4 dX12_findIn_20 rfl ?_
          exact g_zret (ty := .int) (r := v_1) B K rfl (rfl) ⟨rfl, rfl, rg_w r_5 (by decide) (by decide), ⟨fun q => absurd q (rg_nek r_5 rc_m1 (by decide)), fun _ => ⟨v_1.toNatClampNeg, by rw [ix_n r_5 (by decide)]; exact Int32.lt_iff_toInt_lt.mp (nle h_4), by rw [← (show x_7.toNatClampNeg = 7 + v_1.toNatClampNeg from by rw [nx_a tx_7 rc_7 r_5 (by decide)]; simp only [show (7 : Int32).toNatClampNeg = 7 from rfl] <;> omega), hy_8]; exact qx_9.mp (rg_1k r_13 rc_0)⟩⟩⟩ dX12_findIn_22
  refine g_iconst C (v := 0) dX12_findIn_0 (by decide) ?_
  refine g_istore C dX12_findIn_1 (by decide) (lo2 := [(5, .int 0), (0, .ref a0), (1, .int 7), (2, .int a2), (3, .long a3)]) rfl ?_
  refine g_lo (is := [1, 2, 3, 4, 0]) (lo2 := [(0, .ref a0), (1, .int 7), (2, .int a2), (3, .long a3), (5, .int 0)]) rfl ?_
  exact l_3 7 0 (rg_w rc_0 (by decide) (by decide)) (fun j hj => by rw [show (0 : Int32).toInt = 0 from by decide] at hj; omega) (ms_s (a := 0) (b := 6) (N := 7) (rg_w rc_0 (by decide) (by decide)) (by decide))
set_option maxRecDepth 100000 in
set_option maxHeartbeats 8000000 in
theorem c_X12_isName {l : Launch} {D : va_G} {cy : Nat → ClassId} {L : List Nat} {κ ln : Nat → Nat} {R : Nat → Nat → Option Nat} {I : Nat → Nat → Int32} {J : Nat → Nat → Int64} {ow : Nat → Nat × Nat} (W9 : ∀ a ∈ L, Shp L κ ln R ow a) {x : Nat} (hLx : x ∈ L) (hkx : κ x = 12) (hU : Iw L κ R ow I) : CtI l yX12_isName cX12_isName 2 (some .boolean) { frames := 2, cells := 0, slots := 0, locals := 48 } D cy L κ ln R I J [.ref x] (fun r I2 J2 => I = I2 ∧ J = J2 ∧ Rg 0 1 r) := by
  refine CtI.of (by decide +kernel) (Nat.le_of_ble_eq_true rfl) ?_
  intro p e s m below meth c B K
  have C := B.1
  refine g_lo (is := [0]) (lo2 := [(0, .ref x)]) rfl ?_
  have l_12 : ∀ (n_12 : Nat) (v_1 : Int32) (rv_1 : Rg 0 28 v_1) (v_2 : Int32) (rv_2 : Rg 2 2 v_2) (q_3 : I x 7 = v_2) (hm_4 : 28 < (v_1 : Int32).toInt + (n_12 : Int)), WG p l e { frames := 2, cells := 0, slots := 0, locals := 48 } s m ([.ref x] : List Value).toArray below meth c 2 0 0 (MQ below (Qi_ D cy L κ ln R (fun r I2 J2 => I = I2 ∧ J = J2 ∧ Rg 0 1 r)) ([.ref x] : List Value).toArray s 0 0 (Al_ L)) D cy (Al_ L) s.heap L κ ln R I J 12 [(0, .ref x), (1, .int v_1)] [] := by
    intro n_12
    induction n_12 with
    | zero =>
      intro v_1 rv_1 v_2 rv_2 q_3 hm_4
      exact ms_0 rv_1 hm_4
    | succ n_12 ih_12 =>
      intro v_1 rv_1 v_2 rv_2 q_3 hm_4
      refine g_iload_n C 1 dX12_isName_12 rfl rfl ?_
      refine g_bipush C (v := 27) dX12_isName_13 (by decide) ?_
      refine g_icmp_gt C (tgt := 38) dX12_isName_15 (by decide) (fun h_5 => ?_) (fun h_5 => ?_)
      · skip
        have r_6 := lt_r (lo := 28) (h_5) rc_27 rv_1 (by decide)
        refine g_iconst C (v := 1) dX12_isName_38 (by decide) ?_
        exact g_zret (ty := .boolean) (r := 1) B K rfl (rfl) ⟨rfl, rfl, rg_w rc_1 (by decide) (by decide)⟩ dX12_isName_39
      · skip
        have r_7 := le_l (nlt h_5) rv_1 rc_27
        refine g_aload_n C 0 dX12_isName_18 rfl rfl ?_
        obtain ⟨y_8, hy_8⟩ : ∃ z, J x 12 = z := ⟨_, rfl⟩
        refine g_getJ C K hLx hkx f_12_117 (v := y_8) hy_8 dX12_isName_19 ?_
        refine g_iload_n C 1 dX12_isName_22 rfl rfl ?_
        refine g_callSL C K (c_X12_wordOf W9 v_1 (r_7) hU) s_12_136 rfl ⟨rfl, rfl⟩ ⟨Nat.le_of_ble_eq_true rfl, Nat.le_of_ble_eq_true rfl⟩ (Nat.le_of_ble_eq_true rfl) ⟨Nat.le_of_ble_eq_true rfl, Nat.le_of_ble_eq_true rfl⟩ dX12_isName_23 rfl (st := [.long y_8]) (fun x_9 I_10 J_11 h_12 => ?_)
        obtain ⟨rfl, rfl⟩ := h_12
        refine g_lcmp C dX12_isName_26 (fun x_13 rx_13 => ?_)
        refine g_if_ne C (tgt := 32) dX12_isName_27 (by decide) (fun h_14 => ?_) (fun h_14 => ?_)
        · skip
          have n_15 : ¬ x_13 = 0 := h_14
          obtain ⟨x_16, hx_16, rx_16, tx_16⟩ := ex_add (y := 1) 1 28 r_7 rc_1 (by decide) (by decide) (by decide) (by decide)
          refine g_iinc C dX12_isName_32 (k := 1) (v := x_16) rfl hx_16 (by decide) (lo2 := [(1, .int x_16), (0, .ref x)]) rfl ?_
          refine g_goto C (tgt := 12) dX12_isName_35 (by decide) ?_
          refine g_lo (is := [1, 0]) (lo2 := [(0, .ref x), (1, .int x_16)]) rfl ?_
          exact ih_12 x_16 (rg_w rx_16 (by decide) (by decide)) v_2 (rv_2) q_3 (ms_1 hm_4 (ti_k tx_16 rc_1) (by decide))
        · skip
          have r_17 := (⟨(eq_rg (h_14) rc_0).1, (eq_rg (h_14) rc_0).2⟩ : Rg 0 0 x_13)
          refine g_iconst C (v := 0) dX12_isName_30 (by decide) ?_
          exact g_zret (ty := .boolean) (r := 0) B K rfl (rfl) ⟨rfl, rfl, rg_w rc_0 (by decide) (by decide)⟩ dX12_isName_31
  refine g_aload_n C 0 dX12_isName_0 rfl rfl ?_
  obtain ⟨x_18, hx_18, rx_18⟩ := ex_getw (I := I) (a := x) (j := 7) (lo := 0) (hi := 4) hU.1 hLx (ro_o hkx (by decide)) rfl
  refine g_getI C K hLx hkx f_12_104 (v := x_18) hx_18 dX12_isName_1 ?_
  refine g_iconst C (v := 2) dX12_isName_4 (by decide) ?_
  refine g_icmp_eq C (tgt := 10) dX12_isName_5 (by decide) (fun h_19 => ?_) (fun h_19 => ?_)
  · skip
    have r_20 := (⟨(eq_rg (h_19) rc_2).1, (eq_rg (h_19) rc_2).2⟩ : Rg 2 2 x_18)
    refine g_iconst C (v := 0) dX12_isName_10 (by decide) ?_
    refine g_istore_n C dX12_isName_11 rfl (by decide) (lo2 := [(1, .int 0), (0, .ref x)]) rfl ?_
    refine g_lo (is := [1, 0]) (lo2 := [(0, .ref x), (1, .int 0)]) rfl ?_
    exact l_12 29 0 (rg_w rc_0 (by decide) (by decide)) x_18 (r_20) hx_18 (ms_s (a := 0) (b := 28) (N := 29) (rg_w rc_0 (by decide) (by decide)) (by decide))
  · skip
    have n_21 : ¬ x_18 = 2 := h_19
    refine g_iconst C (v := 0) dX12_isName_8 (by decide) ?_
    exact g_zret (ty := .boolean) (r := 0) B K rfl (rfl) ⟨rfl, rfl, rg_w rc_0 (by decide) (by decide)⟩ dX12_isName_9
set_option maxRecDepth 100000 in
set_option maxHeartbeats 8000000 in
theorem c_X12_readNew {l : Launch} {D : va_G} {cy : Nat → ClassId} {L : List Nat} {κ ln : Nat → Nat} {R : Nat → Nat → Option Nat} {I : Nat → Nat → Int32} {J : Nat → Nat → Int64} {ow : Nat → Nat × Nat} (W9 : ∀ a ∈ L, Shp L κ ln R ow a) {x : Nat} (hLx : x ∈ L) (hkx : κ x = 12) (a0 : Int32) (ra0 : Rg 0 12 a0) (hU : Iw L κ R ow I) : CtI l yX12_readNew cX12_readNew 2 (some .boolean) { frames := 3, cells := 0, slots := 0, locals := 69 } D cy L κ ln R I J [.ref x, .int a0] (fun r I2 J2 => Iw L κ R ow I2 ∧ Fq L κ ow [1205, 1206, 1207, 1208, 1209, 1210, 1211] I I2 ∧ Fq L κ ow [1212, 84000] J J2 ∧ Rg 0 1 r ∧ (Pg_ x I I2 ∧ (¬ r = 0 → Ps_ x I I2))) := by
  refine CtI.of (by decide +kernel) (Nat.le_of_ble_eq_true rfl) ?_
  intro p e s m below meth c B K
  have C := B.1
  have hF : Fq L κ ow [1205, 1206, 1207, 1208, 1209, 1210, 1211] I I := fq_rf
  have hG : Fq L κ ow [1212, 84000] J J := fq_rf
  obtain ⟨b_1, hb_1, hb_1L, hb_1k, hb_1n, hb_1o⟩ := shp_a (W9 x hLx) hkx 15 14 72 rfl (by decide)
  obtain ⟨b_2, hb_2, hb_2L, hb_2k, hb_2n, hb_2o⟩ := shp_a (W9 x hLx) hkx 20 15 13 rfl (by decide)
  refine g_lo (is := [0, 1]) (lo2 := [(0, .ref x), (1, .int a0)]) rfl ?_
  have j_58 : ∀ (I_3 : Nat → Nat → Int32) (J_4 : Nat → Nat → Int64) (hU_5 : Iw L κ R ow I_3) (hF_6 : Fq L κ ow [1205, 1206, 1207, 1208, 1209, 1210, 1211] I I_3) (hG_7 : Fq L κ ow [1212, 84000] J J_4) (pg_8 : Pg_ x I I_3), WG p l e { frames := 3, cells := 0, slots := 0, locals := 69 } s m ([.ref x, .int a0] : List Value).toArray below meth c 2 0 0 (MQ below (Qi_ D cy L κ ln R (fun r I2 J2 => Iw L κ R ow I2 ∧ Fq L κ ow [1205, 1206, 1207, 1208, 1209, 1210, 1211] I I2 ∧ Fq L κ ow [1212, 84000] J J2 ∧ Rg 0 1 r ∧ (Pg_ x I I2 ∧ (¬ r = 0 → Ps_ x I I2)))) ([.ref x, .int a0] : List Value).toArray s 0 0 (Al_ L)) D cy (Al_ L) s.heap L κ ln R I_3 J_4 58 [(0, .ref x), (1, .int a0)] [] := by
    intro I_3 J_4 hU_5 hF_6 hG_7 pg_8
    refine g_aload_n C 0 dX12_readNew_58 rfl rfl ?_
    refine g_iconst C (v := 3) dX12_readNew_59 (by decide) ?_
    refine g_callVI C K (c_X12_bad W9 hLx hkx 3 (rg_w rc_3 (by decide) (by decide)) hU_5) hLx hkx (by decide) rfl v_12_146 rfl ⟨rfl, rfl⟩ ⟨Nat.le_of_ble_eq_true rfl, Nat.le_of_ble_eq_true rfl⟩ (Nat.le_of_ble_eq_true rfl) ⟨Nat.le_of_ble_eq_true rfl, Nat.le_of_ble_eq_true rfl⟩ dX12_readNew_60 rfl (st := []) (fun x_9 I_10 J_11 h_12 => ?_)
    obtain ⟨hUI_10, hFI_10, hGJ_11, rx_9⟩ := h_12
    have hF_13 := fq_tr hF_6 hFI_10 (by decide)
    have hG_14 := fq_tr hG_7 hGJ_11 (by decide)
    exact g_zret (ty := .boolean) (r := x_9) B K rfl (nar_z (rg_w rx_9 (by decide) (by decide))) ⟨hUI_10, hF_13, hG_14, rg_w rx_9 (by decide) (by decide), ⟨(pg_fq pg_8 hFI_10 hLx hkx (by decide) (by decide)), fun q => ne_no q rx_9 rc_0⟩⟩ dX12_readNew_63
  refine g_aload_n C 0 dX12_readNew_0 rfl rfl ?_
  refine g_callVI C K (c_X12_isName W9 hLx hkx   hU) hLx hkx (by decide) rfl v_12_166 rfl ⟨rfl, rfl⟩ ⟨Nat.le_of_ble_eq_true rfl, Nat.le_of_ble_eq_true rfl⟩ (Nat.le_of_ble_eq_true rfl) ⟨Nat.le_of_ble_eq_true rfl, Nat.le_of_ble_eq_true rfl⟩ dX12_readNew_1 rfl (st := []) (fun x_15 I_16 J_17 h_18 => ?_)
  obtain ⟨rfl, rfl, rx_15⟩ := h_18
  refine g_if_ne C (tgt := 13) dX12_readNew_4 (by decide) (fun h_19 => ?_) (fun h_19 => ?_)
  · skip
    have n_20 : ¬ x_15 = 0 := h_19
    have r_21 := ne_lo (lo := 1) n_20 rx_15 rc_0 rfl (by decide)
    refine g_aload_n C 0 dX12_readNew_13 rfl rfl ?_
    refine g_getR C K hLx hkx f_12_32 hb_2 dX12_readNew_14 ?_
    refine g_iconst C (v := 0) dX12_readNew_17 (by decide) ?_
    refine g_aload_n C 0 dX12_readNew_18 rfl rfl ?_
    refine g_getR C K hLx hkx f_12_16 hb_1 dX12_readNew_19 ?_
    refine g_iconst C (v := 0) dX12_readNew_22 (by decide) ?_
    obtain ⟨x_22, hx_22, rx_22⟩ := ex_getw (I := I) (a := b_1) (j := 0) (lo := 0) (hi := 7) hU.1 hb_1L (ro_a hb_1k (by decide) hb_1o hkx rfl) (by decide)
    refine h_iald C K hb_1L hb_1k (v := x_22) (0) (by decide) (by decide) (by rw [hb_1n]; decide) hx_22 dX12_readNew_23 ?_
    refine g_aload_n C 0 dX12_readNew_24 rfl rfl ?_
    obtain ⟨y_23, hy_23⟩ : ∃ z, J x 12 = z := ⟨_, rfl⟩
    refine g_getJ C K hLx hkx f_12_117 (v := y_23) hy_23 dX12_readNew_25 ?_
    refine g_callSI C K (c_X12_findIn_0 W9 hb_2L hb_2k hb_2n x_22 y_23 (rx_22) hU) s_12_170 rfl ⟨rfl, rfl⟩ ⟨Nat.le_of_ble_eq_true rfl, Nat.le_of_ble_eq_true rfl⟩ (Nat.le_of_ble_eq_true rfl) ⟨Nat.le_of_ble_eq_true rfl, Nat.le_of_ble_eq_true rfl⟩ dX12_readNew_28 rfl (st := []) (fun x_24 I_25 J_26 h_27 => ?_)
    obtain ⟨rfl, rfl, rx_24, ex_24⟩ := h_27
    refine g_iconst C (v := (-1)) dX12_readNew_31 (by decide) ?_
    refine g_icmp_ne C (tgt := 58) dX12_readNew_32 (by decide) (fun h_28 => ?_) (fun h_28 => ?_)
    · skip
      have n_29 : ¬ x_24 = (-1) := h_28
      have r_30 := ne_lo (lo := 0) n_29 rx_24 rc_m1 rfl (by decide)
      refine g_lo (is := [0, 1]) (lo2 := [(0, .ref x), (1, .int a0)]) rfl ?_
      exact j_58 I J hU hF hG pg_rf
    · skip
      have r_31 := (⟨(rx_24).1, (eq_rg (h_28) rc_m1).2⟩ : Rg (-1) (-1) x_24)
      refine g_aload_n C 0 dX12_readNew_35 rfl rfl ?_
      refine g_getR C K hLx hkx f_12_32 hb_2 dX12_readNew_36 ?_
      refine g_bipush C (v := 7) dX12_readNew_39 (by decide) ?_
      refine g_aload_n C 0 dX12_readNew_41 rfl rfl ?_
      refine g_getR C K hLx hkx f_12_16 hb_1 dX12_readNew_42 ?_
      refine g_iconst C (v := 1) dX12_readNew_45 (by decide) ?_
      obtain ⟨x_32, hx_32, rx_32⟩ := ex_getw (I := I) (a := b_1) (j := 1) (lo := 0) (hi := 6) hU.1 hb_1L (ro_a hb_1k (by decide) hb_1o hkx rfl) (by decide)
      refine h_iald C K hb_1L hb_1k (v := x_32) (1) (by decide) (by decide) (by rw [hb_1n]; decide) hx_32 dX12_readNew_46 ?_
      refine g_aload_n C 0 dX12_readNew_47 rfl rfl ?_
      refine g_getJ C K hLx hkx f_12_117 (v := y_23) hy_23 dX12_readNew_48 ?_
      refine g_callSI C K (c_X12_findIn_7 W9 hb_2L hb_2k hb_2n x_32 y_23 (rx_32) hU) s_12_170 rfl ⟨rfl, rfl⟩ ⟨Nat.le_of_ble_eq_true rfl, Nat.le_of_ble_eq_true rfl⟩ (Nat.le_of_ble_eq_true rfl) ⟨Nat.le_of_ble_eq_true rfl, Nat.le_of_ble_eq_true rfl⟩ dX12_readNew_51 rfl (st := []) (fun x_33 I_34 J_35 h_36 => ?_)
      obtain ⟨rfl, rfl, rx_33, ex_33⟩ := h_36
      refine g_iconst C (v := (-1)) dX12_readNew_54 (by decide) ?_
      refine g_icmp_eq C (tgt := 64) dX12_readNew_55 (by decide) (fun h_37 => ?_) (fun h_37 => ?_)
      · skip
        have r_38 := (⟨(rx_33).1, (eq_rg (h_37) rc_m1).2⟩ : Rg (-1) (-1) x_33)
        refine g_aload_n C 0 dX12_readNew_64 rfl rfl ?_
        refine g_getR C K hLx hkx f_12_32 hb_2 dX12_readNew_65 ?_
        refine g_iload_n C 1 dX12_readNew_68 rfl rfl ?_
        refine g_aload_n C 0 dX12_readNew_69 rfl rfl ?_
        refine g_getJ C K hLx hkx f_12_117 (v := y_23) hy_23 dX12_readNew_70 ?_
        refine h_last C K hb_2L hb_2k (a0.toNatClampNeg) (rfl) (ix_0 ra0 (by decide)) (ix_lt ra0 (by decide) hb_2n (by decide)) dX12_readNew_73 (fun J_39 hJ_39 => ?_)
        have hG_40 := fq_puta hG hJ_39 (ro_a hb_2k (by decide) hb_2o hkx rfl) (by decide) (by decide)
        refine g_aload_n C 0 dX12_readNew_74 rfl rfl ?_
        refine g_callVV C K (c_X12_go W9 hLx hkx   hU) hLx hkx (by decide) rfl v_12_156 rfl ⟨rfl, rfl⟩ ⟨Nat.le_of_ble_eq_true rfl, Nat.le_of_ble_eq_true rfl⟩ (Nat.le_of_ble_eq_true rfl) ⟨Nat.le_of_ble_eq_true rfl, Nat.le_of_ble_eq_true rfl⟩ dX12_readNew_75 rfl (st := []) (fun I_42 J_43 h_44 => ?_)
        obtain ⟨hUI_42, hFI_42, hGJ_43, ex_41⟩ := h_44
        have hF_45 := fq_tr hF hFI_42 (by decide)
        have hG_46 := fq_tr hG_40 hGJ_43 (by decide)
        refine g_iconst C (v := 1) dX12_readNew_78 (by decide) ?_
        exact g_zret (ty := .boolean) (r := 1) B K rfl (rfl) ⟨hUI_42, hF_45, hG_46, rg_w rc_1 (by decide) (by decide), ⟨(pg_s (ps_t2 pg_rf ex_41)), fun _ => (ps_t2 pg_rf ex_41)⟩⟩ dX12_readNew_79
      · skip
        have n_47 : ¬ x_33 = (-1) := h_37
        have r_48 := ne_lo (lo := 0) n_47 rx_33 rc_m1 rfl (by decide)
        refine g_lo (is := [0, 1]) (lo2 := [(0, .ref x), (1, .int a0)]) rfl ?_
        exact j_58 I J hU hF hG pg_rf
  · skip
    have r_49 := (⟨(rx_15).1, (eq_rg (h_19) rc_0).2⟩ : Rg 0 0 x_15)
    refine g_aload_n C 0 dX12_readNew_7 rfl rfl ?_
    refine g_iconst C (v := 1) dX12_readNew_8 (by decide) ?_
    refine g_callVI C K (c_X12_bad W9 hLx hkx 1 (rg_w rc_1 (by decide) (by decide)) hU) hLx hkx (by decide) rfl v_12_146 rfl ⟨rfl, rfl⟩ ⟨Nat.le_of_ble_eq_true rfl, Nat.le_of_ble_eq_true rfl⟩ (Nat.le_of_ble_eq_true rfl) ⟨Nat.le_of_ble_eq_true rfl, Nat.le_of_ble_eq_true rfl⟩ dX12_readNew_9 rfl (st := []) (fun x_50 I_51 J_52 h_53 => ?_)
    obtain ⟨hUI_51, hFI_51, hGJ_52, rx_50⟩ := h_53
    have hF_54 := fq_tr hF hFI_51 (by decide)
    have hG_55 := fq_tr hG hGJ_52 (by decide)
    exact g_zret (ty := .boolean) (r := x_50) B K rfl (nar_z (rg_w rx_50 (by decide) (by decide))) ⟨hUI_51, hF_54, hG_55, rg_w rx_50 (by decide) (by decide), ⟨(pg_fq pg_rf hFI_51 hLx hkx (by decide) (by decide)), fun q => ne_no q rx_50 rc_0⟩⟩ dX12_readNew_12
set_option maxRecDepth 100000 in
set_option maxHeartbeats 8000000 in
theorem c_X12_isIn {l : Launch} {D : va_G} {cy : Nat → ClassId} {L : List Nat} {κ ln : Nat → Nat} {R : Nat → Nat → Option Nat} {I : Nat → Nat → Int32} {J : Nat → Nat → Int64} {ow : Nat → Nat × Nat} (W9 : ∀ a ∈ L, Shp L κ ln R ow a) (a0 : Int32) (a1 : Int32) (a2 : Int32) (ra1 : Rg 0 1 a1) (ra2 : Rg (-1) 999 a2) (hU : Iw L κ R ow I) : CtI l yX12_isIn cX12_isIn 3 (some .boolean) { frames := 0, cells := 0, slots := 0, locals := 0 } D cy L κ ln R I J [.int a0, .int a1, .int a2] (fun r I2 J2 => I = I2 ∧ J = J2 ∧ Rg 0 1 r ∧ (¬ r = 0 → a1 ≤ a0) ∧ (¬ r = 0 → a0 ≤ a2)) := by
  refine CtI.of (by decide +kernel) (Nat.le_of_ble_eq_true rfl) ?_
  intro p e s m below meth c B K
  have C := B.1
  refine g_lo (is := [0, 1, 2]) (lo2 := [(0, .int a0), (1, .int a1), (2, .int a2)]) rfl ?_
  refine g_iload_n C 0 dX12_isIn_0 rfl rfl ?_
  refine g_iload_n C 1 dX12_isIn_1 rfl rfl ?_
  refine g_icmp_lt C (tgt := 14) dX12_isIn_2 (by decide) (fun h_1 => ?_) (fun h_1 => ?_)
  · skip
    have r_2 := lt_l (hi := 0) (h_1) (rg_all a0) ra1 (by decide)
    refine g_iconst C (v := 0) dX12_isIn_14 (by decide) ?_
    exact g_zret (ty := .boolean) (r := 0) B K rfl (rfl) ⟨rfl, rfl, rg_w rc_0 (by decide) (by decide), (fun q => absurd rfl q), (fun q => absurd rfl q)⟩ dX12_isIn_15
  · skip
    have r_3 := le_r (nlt h_1) ra1 (rg_all a0)
    refine g_iload_n C 0 dX12_isIn_5 rfl rfl ?_
    refine g_iload_n C 2 dX12_isIn_6 rfl rfl ?_
    refine g_icmp_gt C (tgt := 14) dX12_isIn_7 (by decide) (fun h_4 => ?_) (fun h_4 => ?_)
    · skip
      refine g_iconst C (v := 0) dX12_isIn_14 (by decide) ?_
      exact g_zret (ty := .boolean) (r := 0) B K rfl (rfl) ⟨rfl, rfl, rg_w rc_0 (by decide) (by decide), (fun q => absurd rfl q), (fun q => absurd rfl q)⟩ dX12_isIn_15
    · skip
      have r_5 := le_l (nlt h_4) r_3 ra2
      have r_6 := le_r (nlt h_4) r_3 ra2
      refine g_iconst C (v := 1) dX12_isIn_10 (by decide) ?_
      refine g_goto C (tgt := 15) dX12_isIn_11 (by decide) ?_
      exact g_zret (ty := .boolean) (r := 1) B K rfl (rfl) ⟨rfl, rfl, rg_w rc_1 (by decide) (by decide), (fun _ => nlt h_1), (fun _ => nlt h_4)⟩ dX12_isIn_15
set_option maxRecDepth 100000 in
set_option maxHeartbeats 8000000 in
theorem c_X12_readNumber_0_99 {l : Launch} {D : va_G} {cy : Nat → ClassId} {L : List Nat} {κ ln : Nat → Nat} {R : Nat → Nat → Option Nat} {I : Nat → Nat → Int32} {J : Nat → Nat → Int64} {ow : Nat → Nat × Nat} (W9 : ∀ a ∈ L, Shp L κ ln R ow a) {x : Nat} (hLx : x ∈ L) (hkx : κ x = 12) (hU : Iw L κ R ow I) : CtI l yX12_readNumber cX12_readNumber 3 (some .boolean) { frames := 2, cells := 0, slots := 0, locals := 45 } D cy L κ ln R I J [.ref x, .int 0, .int 99] (fun r I2 J2 => Iw L κ R ow I2 ∧ Fq L κ ow [1205, 1206, 1207, 1208, 1209, 1210, 1211, 1213] I I2 ∧ Fq L κ ow [1212] J J2 ∧ Rg 0 1 r ∧ (Pg_ x I I2 ∧ (¬ r = 0 → Ps_ x I I2)) ∧ (¬ r = 0 → Rg 0 99 (I2 x 13))) := by
  refine CtI.of (by decide +kernel) (Nat.le_of_ble_eq_true rfl) ?_
  intro p e s m below meth c B K
  have C := B.1
  have hF : Fq L κ ow [1205, 1206, 1207, 1208, 1209, 1210, 1211, 1213] I I := fq_rf
  have hG : Fq L κ ow [1212] J J := fq_rf
  refine g_lo (is := [0, 1, 2]) (lo2 := [(0, .ref x), (1, .int 0), (2, .int 99)]) rfl ?_
  refine g_aload_n C 0 dX12_readNumber_0 rfl rfl ?_
  obtain ⟨x_1, hx_1, rx_1⟩ := ex_getw (I := I) (a := x) (j := 7) (lo := 0) (hi := 4) hU.1 hLx (ro_o hkx (by decide)) rfl
  refine g_getI C K hLx hkx f_12_104 (v := x_1) hx_1 dX12_readNumber_1 ?_
  refine g_iconst C (v := 3) dX12_readNumber_4 (by decide) ?_
  refine g_icmp_eq C (tgt := 14) dX12_readNumber_5 (by decide) (fun h_2 => ?_) (fun h_2 => ?_)
  · skip
    have r_3 := (⟨(eq_rg (h_2) rc_3).1, (eq_rg (h_2) rc_3).2⟩ : Rg 3 3 x_1)
    refine g_aload_n C 0 dX12_readNumber_14 rfl rfl ?_
    obtain ⟨x_4, hx_4, rx_4⟩ := ex_getw (I := I) (a := x) (j := 8) (lo := (-2147483648)) (hi := 2147483647) hU.1 hLx (ro_o hkx (by decide)) rfl
    refine g_getI C K hLx hkx f_12_121 (v := x_4) hx_4 dX12_readNumber_15 ?_
    refine g_iload_n C 1 dX12_readNumber_18 rfl rfl ?_
    refine g_iload_n C 2 dX12_readNumber_19 rfl rfl ?_
    refine g_callSI C K (c_X12_isIn W9 x_4 0 99 (rg_w rc_0 (by decide) (by decide)) (rg_w rc_99 (by decide) (by decide)) hU) s_12_149 rfl ⟨rfl, rfl⟩ ⟨Nat.le_of_ble_eq_true rfl, Nat.le_of_ble_eq_true rfl⟩ (Nat.le_of_ble_eq_true rfl) ⟨Nat.le_of_ble_eq_true rfl, Nat.le_of_ble_eq_true rfl⟩ dX12_readNumber_20 rfl (st := []) (fun x_5 I_6 J_7 h_8 => ?_)
    obtain ⟨rfl, rfl, rx_5, ex_5⟩ := h_8
    refine g_if_ne C (tgt := 32) dX12_readNumber_23 (by decide) (fun h_9 => ?_) (fun h_9 => ?_)
    · skip
      have n_10 : ¬ x_5 = 0 := h_9
      have r_11 := ne_lo (lo := 1) n_10 rx_5 rc_0 rfl (by decide)
      have r_12 := le_r (((ex_5.1) n_10)) rc_0 rx_4
      have r_13 := le_l (((ex_5.2) n_10)) r_12 rc_99
      refine g_aload_n C 0 dX12_readNumber_32 rfl rfl ?_
      refine g_aload_n C 0 dX12_readNumber_33 rfl rfl ?_
      refine g_getI C K hLx hkx f_12_121 (v := x_4) hx_4 dX12_readNumber_34 ?_
      refine h_putI C K hLx hkx f_12_153 p_12_13 dX12_readNumber_37 (fun I_14 hI_14 => ?_)
      have hU_15 := iw_put W9 hU hI_14 (ro_o hkx (by decide)) (lo := (-2147483648)) (hi := 2147483647) (rfl) (rg_all _) rfl
      have hF_16 := fq_puto hF hI_14 hkx (by decide) (by decide)
      refine g_aload_n C 0 dX12_readNumber_40 rfl rfl ?_
      refine g_callVV C K (c_X12_go W9 hLx hkx   hU_15) hLx hkx (by decide) rfl v_12_156 rfl ⟨rfl, rfl⟩ ⟨Nat.le_of_ble_eq_true rfl, Nat.le_of_ble_eq_true rfl⟩ (Nat.le_of_ble_eq_true rfl) ⟨Nat.le_of_ble_eq_true rfl, Nat.le_of_ble_eq_true rfl⟩ dX12_readNumber_41 rfl (st := []) (fun I_18 J_19 h_20 => ?_)
      obtain ⟨hUI_18, hFI_18, hGJ_19, ex_17⟩ := h_20
      have hF_21 := fq_tr hF_16 hFI_18 (by decide)
      have hG_22 := fq_tr hG hGJ_19 (by decide)
      refine g_iconst C (v := 1) dX12_readNumber_44 (by decide) ?_
      exact g_zret (ty := .boolean) (r := 1) B K rfl (rfl) ⟨hUI_18, hF_21, hG_22, rg_w rc_1 (by decide) (by decide), ⟨(pg_s (ps_t2 (pg_u pg_rf hI_14 (Or.inr (by decide)) (Or.inr (by decide))) ex_17)), fun _ => (ps_t2 (pg_u pg_rf hI_14 (Or.inr (by decide)) (Or.inr (by decide))) ex_17)⟩, (fun _ => eq_rg (fq_at hFI_18 hLx hkx (by decide) (by decide) (kp_s hI_14)) (r_13))⟩ dX12_readNumber_45
    · skip
      have r_23 := (⟨(rx_5).1, (eq_rg (h_9) rc_0).2⟩ : Rg 0 0 x_5)
      refine g_aload_n C 0 dX12_readNumber_26 rfl rfl ?_
      refine g_iconst C (v := 2) dX12_readNumber_27 (by decide) ?_
      refine g_callVI C K (c_X12_bad W9 hLx hkx 2 (rg_w rc_2 (by decide) (by decide)) hU) hLx hkx (by decide) rfl v_12_146 rfl ⟨rfl, rfl⟩ ⟨Nat.le_of_ble_eq_true rfl, Nat.le_of_ble_eq_true rfl⟩ (Nat.le_of_ble_eq_true rfl) ⟨Nat.le_of_ble_eq_true rfl, Nat.le_of_ble_eq_true rfl⟩ dX12_readNumber_28 rfl (st := []) (fun x_24 I_25 J_26 h_27 => ?_)
      obtain ⟨hUI_25, hFI_25, hGJ_26, rx_24⟩ := h_27
      have hF_28 := fq_tr hF hFI_25 (by decide)
      have hG_29 := fq_tr hG hGJ_26 (by decide)
      exact g_zret (ty := .boolean) (r := x_24) B K rfl (nar_z (rg_w rx_24 (by decide) (by decide))) ⟨hUI_25, hF_28, hG_29, rg_w rx_24 (by decide) (by decide), ⟨(pg_fq pg_rf hFI_25 hLx hkx (by decide) (by decide)), fun q => ne_no q rx_24 rc_0⟩, (fun q => ne_no q rx_24 rc_0)⟩ dX12_readNumber_31
  · skip
    have n_30 : ¬ x_1 = 3 := h_2
    refine g_aload_n C 0 dX12_readNumber_8 rfl rfl ?_
    refine g_iconst C (v := 1) dX12_readNumber_9 (by decide) ?_
    refine g_callVI C K (c_X12_bad W9 hLx hkx 1 (rg_w rc_1 (by decide) (by decide)) hU) hLx hkx (by decide) rfl v_12_146 rfl ⟨rfl, rfl⟩ ⟨Nat.le_of_ble_eq_true rfl, Nat.le_of_ble_eq_true rfl⟩ (Nat.le_of_ble_eq_true rfl) ⟨Nat.le_of_ble_eq_true rfl, Nat.le_of_ble_eq_true rfl⟩ dX12_readNumber_10 rfl (st := []) (fun x_31 I_32 J_33 h_34 => ?_)
    obtain ⟨hUI_32, hFI_32, hGJ_33, rx_31⟩ := h_34
    have hF_35 := fq_tr hF hFI_32 (by decide)
    have hG_36 := fq_tr hG hGJ_33 (by decide)
    exact g_zret (ty := .boolean) (r := x_31) B K rfl (nar_z (rg_w rx_31 (by decide) (by decide))) ⟨hUI_32, hF_35, hG_36, rg_w rx_31 (by decide) (by decide), ⟨(pg_fq pg_rf hFI_32 hLx hkx (by decide) (by decide)), fun q => ne_no q rx_31 rc_0⟩, (fun q => ne_no q rx_31 rc_0)⟩ dX12_readNumber_13
set_option maxRecDepth 100000 in
set_option maxHeartbeats 8000000 in
theorem c_X12_readNumber_1_9 {l : Launch} {D : va_G} {cy : Nat → ClassId} {L : List Nat} {κ ln : Nat → Nat} {R : Nat → Nat → Option Nat} {I : Nat → Nat → Int32} {J : Nat → Nat → Int64} {ow : Nat → Nat × Nat} (W9 : ∀ a ∈ L, Shp L κ ln R ow a) {x : Nat} (hLx : x ∈ L) (hkx : κ x = 12) (hU : Iw L κ R ow I) : CtI l yX12_readNumber cX12_readNumber 3 (some .boolean) { frames := 2, cells := 0, slots := 0, locals := 45 } D cy L κ ln R I J [.ref x, .int 1, .int 9] (fun r I2 J2 => Iw L κ R ow I2 ∧ Fq L κ ow [1205, 1206, 1207, 1208, 1209, 1210, 1211, 1213] I I2 ∧ Fq L κ ow [1212] J J2 ∧ Rg 0 1 r ∧ (Pg_ x I I2 ∧ (¬ r = 0 → Ps_ x I I2)) ∧ (¬ r = 0 → Rg 1 9 (I2 x 13))) := by
  refine CtI.of (by decide +kernel) (Nat.le_of_ble_eq_true rfl) ?_
  intro p e s m below meth c B K
  have C := B.1
  have hF : Fq L κ ow [1205, 1206, 1207, 1208, 1209, 1210, 1211, 1213] I I := fq_rf
  have hG : Fq L κ ow [1212] J J := fq_rf
  refine g_lo (is := [0, 1, 2]) (lo2 := [(0, .ref x), (1, .int 1), (2, .int 9)]) rfl ?_
  refine g_aload_n C 0 dX12_readNumber_0 rfl rfl ?_
  obtain ⟨x_1, hx_1, rx_1⟩ := ex_getw (I := I) (a := x) (j := 7) (lo := 0) (hi := 4) hU.1 hLx (ro_o hkx (by decide)) rfl
  refine g_getI C K hLx hkx f_12_104 (v := x_1) hx_1 dX12_readNumber_1 ?_
  refine g_iconst C (v := 3) dX12_readNumber_4 (by decide) ?_
  refine g_icmp_eq C (tgt := 14) dX12_readNumber_5 (by decide) (fun h_2 => ?_) (fun h_2 => ?_)
  · skip
    have r_3 := (⟨(eq_rg (h_2) rc_3).1, (eq_rg (h_2) rc_3).2⟩ : Rg 3 3 x_1)
    refine g_aload_n C 0 dX12_readNumber_14 rfl rfl ?_
    obtain ⟨x_4, hx_4, rx_4⟩ := ex_getw (I := I) (a := x) (j := 8) (lo := (-2147483648)) (hi := 2147483647) hU.1 hLx (ro_o hkx (by decide)) rfl
    refine g_getI C K hLx hkx f_12_121 (v := x_4) hx_4 dX12_readNumber_15 ?_
    refine g_iload_n C 1 dX12_readNumber_18 rfl rfl ?_
    refine g_iload_n C 2 dX12_readNumber_19 rfl rfl ?_
    refine g_callSI C K (c_X12_isIn W9 x_4 1 9 (rg_w rc_1 (by decide) (by decide)) (rg_w rc_9 (by decide) (by decide)) hU) s_12_149 rfl ⟨rfl, rfl⟩ ⟨Nat.le_of_ble_eq_true rfl, Nat.le_of_ble_eq_true rfl⟩ (Nat.le_of_ble_eq_true rfl) ⟨Nat.le_of_ble_eq_true rfl, Nat.le_of_ble_eq_true rfl⟩ dX12_readNumber_20 rfl (st := []) (fun x_5 I_6 J_7 h_8 => ?_)
    obtain ⟨rfl, rfl, rx_5, ex_5⟩ := h_8
    refine g_if_ne C (tgt := 32) dX12_readNumber_23 (by decide) (fun h_9 => ?_) (fun h_9 => ?_)
    · skip
      have n_10 : ¬ x_5 = 0 := h_9
      have r_11 := ne_lo (lo := 1) n_10 rx_5 rc_0 rfl (by decide)
      have r_12 := le_r (((ex_5.1) n_10)) rc_1 rx_4
      have r_13 := le_l (((ex_5.2) n_10)) r_12 rc_9
      refine g_aload_n C 0 dX12_readNumber_32 rfl rfl ?_
      refine g_aload_n C 0 dX12_readNumber_33 rfl rfl ?_
      refine g_getI C K hLx hkx f_12_121 (v := x_4) hx_4 dX12_readNumber_34 ?_
      refine h_putI C K hLx hkx f_12_153 p_12_13 dX12_readNumber_37 (fun I_14 hI_14 => ?_)
      have hU_15 := iw_put W9 hU hI_14 (ro_o hkx (by decide)) (lo := (-2147483648)) (hi := 2147483647) (rfl) (rg_all _) rfl
      have hF_16 := fq_puto hF hI_14 hkx (by decide) (by decide)
      refine g_aload_n C 0 dX12_readNumber_40 rfl rfl ?_
      refine g_callVV C K (c_X12_go W9 hLx hkx   hU_15) hLx hkx (by decide) rfl v_12_156 rfl ⟨rfl, rfl⟩ ⟨Nat.le_of_ble_eq_true rfl, Nat.le_of_ble_eq_true rfl⟩ (Nat.le_of_ble_eq_true rfl) ⟨Nat.le_of_ble_eq_true rfl, Nat.le_of_ble_eq_true rfl⟩ dX12_readNumber_41 rfl (st := []) (fun I_18 J_19 h_20 => ?_)
      obtain ⟨hUI_18, hFI_18, hGJ_19, ex_17⟩ := h_20
      have hF_21 := fq_tr hF_16 hFI_18 (by decide)
      have hG_22 := fq_tr hG hGJ_19 (by decide)
      refine g_iconst C (v := 1) dX12_readNumber_44 (by decide) ?_
      exact g_zret (ty := .boolean) (r := 1) B K rfl (rfl) ⟨hUI_18, hF_21, hG_22, rg_w rc_1 (by decide) (by decide), ⟨(pg_s (ps_t2 (pg_u pg_rf hI_14 (Or.inr (by decide)) (Or.inr (by decide))) ex_17)), fun _ => (ps_t2 (pg_u pg_rf hI_14 (Or.inr (by decide)) (Or.inr (by decide))) ex_17)⟩, (fun _ => eq_rg (fq_at hFI_18 hLx hkx (by decide) (by decide) (kp_s hI_14)) (r_13))⟩ dX12_readNumber_45
    · skip
      have r_23 := (⟨(rx_5).1, (eq_rg (h_9) rc_0).2⟩ : Rg 0 0 x_5)
      refine g_aload_n C 0 dX12_readNumber_26 rfl rfl ?_
      refine g_iconst C (v := 2) dX12_readNumber_27 (by decide) ?_
      refine g_callVI C K (c_X12_bad W9 hLx hkx 2 (rg_w rc_2 (by decide) (by decide)) hU) hLx hkx (by decide) rfl v_12_146 rfl ⟨rfl, rfl⟩ ⟨Nat.le_of_ble_eq_true rfl, Nat.le_of_ble_eq_true rfl⟩ (Nat.le_of_ble_eq_true rfl) ⟨Nat.le_of_ble_eq_true rfl, Nat.le_of_ble_eq_true rfl⟩ dX12_readNumber_28 rfl (st := []) (fun x_24 I_25 J_26 h_27 => ?_)
      obtain ⟨hUI_25, hFI_25, hGJ_26, rx_24⟩ := h_27
      have hF_28 := fq_tr hF hFI_25 (by decide)
      have hG_29 := fq_tr hG hGJ_26 (by decide)
      exact g_zret (ty := .boolean) (r := x_24) B K rfl (nar_z (rg_w rx_24 (by decide) (by decide))) ⟨hUI_25, hF_28, hG_29, rg_w rx_24 (by decide) (by decide), ⟨(pg_fq pg_rf hFI_25 hLx hkx (by decide) (by decide)), fun q => ne_no q rx_24 rc_0⟩, (fun q => ne_no q rx_24 rc_0)⟩ dX12_readNumber_31
  · skip
    have n_30 : ¬ x_1 = 3 := h_2
    refine g_aload_n C 0 dX12_readNumber_8 rfl rfl ?_
    refine g_iconst C (v := 1) dX12_readNumber_9 (by decide) ?_
    refine g_callVI C K (c_X12_bad W9 hLx hkx 1 (rg_w rc_1 (by decide) (by decide)) hU) hLx hkx (by decide) rfl v_12_146 rfl ⟨rfl, rfl⟩ ⟨Nat.le_of_ble_eq_true rfl, Nat.le_of_ble_eq_true rfl⟩ (Nat.le_of_ble_eq_true rfl) ⟨Nat.le_of_ble_eq_true rfl, Nat.le_of_ble_eq_true rfl⟩ dX12_readNumber_10 rfl (st := []) (fun x_31 I_32 J_33 h_34 => ?_)
    obtain ⟨hUI_32, hFI_32, hGJ_33, rx_31⟩ := h_34
    have hF_35 := fq_tr hF hFI_32 (by decide)
    have hG_36 := fq_tr hG hGJ_33 (by decide)
    exact g_zret (ty := .boolean) (r := x_31) B K rfl (nar_z (rg_w rx_31 (by decide) (by decide))) ⟨hUI_32, hF_35, hG_36, rg_w rx_31 (by decide) (by decide), ⟨(pg_fq pg_rf hFI_32 hLx hkx (by decide) (by decide)), fun q => ne_no q rx_31 rc_0⟩, (fun q => ne_no q rx_31 rc_0)⟩ dX12_readNumber_13
set_option maxRecDepth 100000 in
set_option maxHeartbeats 8000000 in
theorem c_X12_readDish {l : Launch} {D : va_G} {cy : Nat → ClassId} {L : List Nat} {κ ln : Nat → Nat} {R : Nat → Nat → Option Nat} {I : Nat → Nat → Int32} {J : Nat → Nat → Int64} {ow : Nat → Nat × Nat} (W9 : ∀ a ∈ L, Shp L κ ln R ow a) {x : Nat} (hLx : x ∈ L) (hkx : κ x = 12) (hU : Iw L κ R ow I) : CtI l yX12_readDish cX12_readDish 2 (some .boolean) { frames := 4, cells := 0, slots := 0, locals := 90 } D cy L κ ln R I J [.ref x] (fun r I2 J2 => Iw L κ R ow I2 ∧ Fq L κ ow [1205, 1206, 1207, 1208, 1209, 1210, 1211, 1213, 83500] I I2 ∧ Fq L κ ow [1212, 84000] J J2 ∧ Rg 0 1 r ∧ (Pg_ x I I2 ∧ (¬ r = 0 → Ps_ x I I2))) := by
  refine CtI.of (by decide +kernel) (Nat.le_of_ble_eq_true rfl) ?_
  intro p e s m below meth c B K
  have C := B.1
  have hF : Fq L κ ow [1205, 1206, 1207, 1208, 1209, 1210, 1211, 1213, 83500] I I := fq_rf
  have hG : Fq L κ ow [1212, 84000] J J := fq_rf
  obtain ⟨b_1, hb_1, hb_1L, hb_1k, hb_1n, hb_1o⟩ := shp_a (W9 x hLx) hkx 15 14 72 rfl (by decide)
  refine g_lo (is := [0]) (lo2 := [(0, .ref x)]) rfl ?_
  have j_82 : ∀ (I_2 : Nat → Nat → Int32) (J_3 : Nat → Nat → Int64) (hU_4 : Iw L κ R ow I_2) (hF_5 : Fq L κ ow [1205, 1206, 1207, 1208, 1209, 1210, 1211, 1213, 83500] I I_2) (hG_6 : Fq L κ ow [1212, 84000] J J_3) (v_7 : Int32) (rv_7 : Rg 0 5 v_7) (v_8 : Int32) (rv_8 : Rg 0 99 v_8) (q_9 : I_2 x 13 = v_8) (q_10 : I_2 b_1 1 = v_7) (pg_11 : Pg_ x I I_2) (ps_12 : Ps_ x I I_2), WG p l e { frames := 4, cells := 0, slots := 0, locals := 90 } s m ([.ref x] : List Value).toArray below meth c 2 0 0 (MQ below (Qi_ D cy L κ ln R (fun r I2 J2 => Iw L κ R ow I2 ∧ Fq L κ ow [1205, 1206, 1207, 1208, 1209, 1210, 1211, 1213, 83500] I I2 ∧ Fq L κ ow [1212, 84000] J J2 ∧ Rg 0 1 r ∧ (Pg_ x I I2 ∧ (¬ r = 0 → Ps_ x I I2)))) ([.ref x] : List Value).toArray s 0 0 (Al_ L)) D cy (Al_ L) s.heap L κ ln R I_2 J_3 82 [(0, .ref x), (1, .int v_7)] [] := by
    intro I_2 J_3 hU_4 hF_5 hG_6 v_7 rv_7 v_8 rv_8 q_9 q_10 pg_11 ps_12
    refine g_aload_n C 0 dX12_readDish_82 rfl rfl ?_
    refine g_getR C K hLx hkx f_12_16 hb_1 dX12_readDish_83 ?_
    refine g_iconst C (v := 1) dX12_readDish_86 (by decide) ?_
    refine g_dup2 C dX12_readDish_87 rfl rfl ?_
    refine h_iald C K hb_1L hb_1k (v := v_7) (1) (by decide) (by decide) (by rw [hb_1n]; decide) q_10 dX12_readDish_88 ?_
    refine g_iconst C (v := 1) dX12_readDish_89 (by decide) ?_
    obtain ⟨x_14, hx_14, rx_14, tx_14⟩ := ex_add 1 6 rv_7 rc_1 (by decide) (by decide) (by decide) (by decide)
    refine g_iadd C (v := x_14) dX12_readDish_90 hx_14 ?_
    refine h_iast C K hb_1L hb_1k (1) (by decide) (by decide) (by rw [hb_1n]; decide) dX12_readDish_91 (fun I_15 hI_15 => ?_)
    have hU_16 := iw_put W9 hU_4 hI_15 (ro_a hb_1k (by decide) hb_1o hkx rfl) (lo := 0) (hi := 6) (by decide) (rg_w rx_14 (by decide) (by decide)) rfl
    have hF_17 := fq_puta hF_5 hI_15 (ro_a hb_1k (by decide) hb_1o hkx rfl) (by decide) (by decide)
    refine g_iconst C (v := 1) dX12_readDish_92 (by decide) ?_
    exact g_zret (ty := .boolean) (r := 1) B K rfl (rfl) ⟨hU_16, hF_17, hG_6, rg_w rc_1 (by decide) (by decide), ⟨(pg_u pg_11 hI_15 (Or.inl (kn_k hkx hb_1k (by decide))) (Or.inl (kn_k hkx hb_1k (by decide)))), fun _ => (ps_u ps_12 hI_15 (Or.inl (kn_k hkx hb_1k (by decide))) (Or.inl (kn_k hkx hb_1k (by decide))))⟩⟩ dX12_readDish_93
  refine g_aload_n C 0 dX12_readDish_0 rfl rfl ?_
  refine g_iconst C (v := 1) dX12_readDish_1 (by decide) ?_
  refine g_bipush C (v := 6) dX12_readDish_2 (by decide) ?_
  refine g_callVI C K (c_X12_readFirst_1_6 W9 hLx hkx   hU) hLx hkx (by decide) rfl v_12_178 rfl ⟨rfl, rfl⟩ ⟨Nat.le_of_ble_eq_true rfl, Nat.le_of_ble_eq_true rfl⟩ (Nat.le_of_ble_eq_true rfl) ⟨Nat.le_of_ble_eq_true rfl, Nat.le_of_ble_eq_true rfl⟩ dX12_readDish_4 rfl (st := []) (fun x_18 I_19 J_20 h_21 => ?_)
  obtain ⟨hUI_19, hFI_19, hGJ_20, rx_18, ex_18⟩ := h_21
  have hF_22 := fq_tr hF hFI_19 (by decide)
  have hG_23 := fq_tr hG hGJ_20 (by decide)
  obtain ⟨x_24, hx_24, rx_24⟩ := ex_any (z0 := I_19 b_1 1)
  have q_25 := hx_24
  refine g_if_ne C (tgt := 12) dX12_readDish_7 (by decide) (fun h_26 => ?_) (fun h_26 => ?_)
  · skip
    have n_27 : ¬ x_18 = 0 := h_26
    have r_28 := ne_lo (lo := 1) n_27 rx_18 rc_0 rfl (by decide)
    have r_29 := rg_i rx_24 (eq_rg q_25.symm ((ex_18.2) n_27 _ hb_1)) (lo := 0) (hi := 5) (by decide) (by decide)
    refine g_aload_n C 0 dX12_readDish_12 rfl rfl ?_
    refine g_getR C K hLx hkx f_12_16 hb_1 dX12_readDish_13 ?_
    refine g_iconst C (v := 1) dX12_readDish_16 (by decide) ?_
    refine h_iald C K hb_1L hb_1k (v := x_24) (1) (by decide) (by decide) (by rw [hb_1n]; decide) hx_24 dX12_readDish_17 ?_
    refine g_istore_n C dX12_readDish_18 rfl (by decide) (lo2 := [(1, .int x_24), (0, .ref x)]) rfl ?_
    refine g_aload_n C 1 dX12_readDish_19 rfl rfl ?_
    refine g_bipush C (v := 7) dX12_readDish_20 (by decide) ?_
    refine g_iload_n C 0 dX12_readDish_22 rfl rfl ?_
    obtain ⟨x_31, hx_31, rx_31, tx_31⟩ := ex_add 7 12 rc_7 r_29 (by decide) (by decide) (by decide) (by decide)
    refine g_iadd C (v := x_31) dX12_readDish_23 hx_31 ?_
    refine g_callVI C K (c_X12_readNew W9 hLx hkx x_31 (rg_w rx_31 (by decide) (by decide)) hUI_19) hLx hkx (by decide) rfl v_12_181 rfl ⟨rfl, rfl⟩ ⟨Nat.le_of_ble_eq_true rfl, Nat.le_of_ble_eq_true rfl⟩ (Nat.le_of_ble_eq_true rfl) ⟨Nat.le_of_ble_eq_true rfl, Nat.le_of_ble_eq_true rfl⟩ dX12_readDish_24 rfl (st := []) (fun x_32 I_33 J_34 h_35 => ?_)
    obtain ⟨hUI_33, hFI_33, hGJ_34, rx_32, ex_32⟩ := h_35
    have hF_36 := fq_tr hF_22 hFI_33 (by decide)
    have hG_37 := fq_tr hG_23 hGJ_34 (by decide)
    refine g_if_eq C (tgt := 48) dX12_readDish_27 (by decide) (fun h_38 => ?_) (fun h_38 => ?_)
    · skip
      have r_39 := (⟨(rx_32).1, (eq_rg (h_38) rc_0).2⟩ : Rg 0 0 x_32)
      refine g_iconst C (v := 0) dX12_readDish_48 (by decide) ?_
      exact g_zret (ty := .boolean) (r := 0) B K rfl (rfl) ⟨hUI_33, hF_36, hG_37, rg_w rc_0 (by decide) (by decide), ⟨(pg_t (pg_t pg_rf ex_18.1.1) ex_32.1), fun q => absurd rfl q⟩⟩ dX12_readDish_49
    · skip
      have n_40 : ¬ x_32 = 0 := h_38
      have r_41 := ne_lo (lo := 1) n_40 rx_32 rc_0 rfl (by decide)
      refine g_aload_n C 1 dX12_readDish_30 rfl rfl ?_
      refine g_bipush C (v := 18) dX12_readDish_31 (by decide) ?_
      refine g_iload_n C 0 dX12_readDish_33 rfl rfl ?_
      obtain ⟨x_42, hx_42, rx_42, tx_42⟩ := ex_add 18 23 rc_18 r_29 (by decide) (by decide) (by decide) (by decide)
      refine g_iadd C (v := x_42) dX12_readDish_34 hx_42 ?_
      refine g_aload_n C 1 dX12_readDish_35 rfl rfl ?_
      refine g_iconst C (v := 0) dX12_readDish_36 (by decide) ?_
      refine g_bipush C (v := 99) dX12_readDish_37 (by decide) ?_
      obtain ⟨x_43, hx_43, rx_43⟩ := ex_getw (I := I_33) (a := x) (j := 13) (lo := (-2147483648)) (hi := 2147483647) hUI_33.1 hLx (ro_o hkx (by decide)) rfl
      refine g_callVI C K (c_X12_readNumber_0_99 W9 hLx hkx   hUI_33) hLx hkx (by decide) rfl v_12_184 rfl ⟨rfl, rfl⟩ ⟨Nat.le_of_ble_eq_true rfl, Nat.le_of_ble_eq_true rfl⟩ (Nat.le_of_ble_eq_true rfl) ⟨Nat.le_of_ble_eq_true rfl, Nat.le_of_ble_eq_true rfl⟩ dX12_readDish_39 rfl (st := [.int x_42, .ref x]) (fun x_44 I_45 J_46 h_47 => ?_)
      obtain ⟨hUI_45, hFI_45, hGJ_46, rx_44, ex_44⟩ := h_47
      have hF_48 := fq_tr hF_36 hFI_45 (by decide)
      have hG_49 := fq_tr hG_37 hGJ_46 (by decide)
      obtain ⟨x_50, hx_50, rx_50⟩ := ex_getw (I := I_45) (a := x) (j := 13) (lo := (-2147483648)) (hi := 2147483647) hUI_45.1 hLx (ro_o hkx (by decide)) rfl
      have q_51 := hx_50
      refine g_callVI C K (c_X12_put_18_23 W9 hLx hkx x_42 x_44 (rx_42) (rx_44) hUI_45  (fun hq => by have n_52 : ¬ x_44 = 0 := hq; have r_53 := ne_lo (lo := 1) n_52 rx_44 rc_0 rfl (by decide); have r_54 := rg_i rx_50 (eq_rg q_51.symm ((ex_44.2) n_52)) (lo := 0) (hi := 99) (by decide) (by decide); exact eq_rg hx_50 (r_54))) hLx hkx (by decide) rfl v_12_187 rfl ⟨rfl, rfl⟩ ⟨Nat.le_of_ble_eq_true rfl, Nat.le_of_ble_eq_true rfl⟩ (Nat.le_of_ble_eq_true rfl) ⟨Nat.le_of_ble_eq_true rfl, Nat.le_of_ble_eq_true rfl⟩ dX12_readDish_42 rfl (st := []) (fun x_55 I_56 J_57 h_58 => ?_)
      obtain ⟨hUI_56, hFI_56, hGJ_57, rx_55, ex_55⟩ := h_58
      have hF_59 := fq_tr hF_48 hFI_56 (by decide)
      have hG_60 := fq_tr hG_49 hGJ_57 (by decide)
      have q_61 := ((ex_55.2 _ hb_1).2).trans (fq_ar hFI_45 hb_1L (ro_a hb_1k (by decide) hb_1o hkx rfl) (by decide) (by decide) (fq_ar hFI_33 hb_1L (ro_a hb_1k (by decide) hb_1o hkx rfl) (by decide) (by decide) hx_24))
      refine g_if_ne C (tgt := 50) dX12_readDish_45 (by decide) (fun h_62 => ?_) (fun h_62 => ?_)
      · skip
        have n_63 : ¬ x_55 = 0 := h_62
        have r_64 := ne_lo (lo := 1) n_63 rx_55 rc_0 rfl (by decide)
        have n_65 : ¬ x_44 = 0 := (fun q => n_63 (Eq.trans ex_55.1 q))
        have r_66 := ne_lo (lo := 1) n_65 rx_44 rc_0 rfl (by decide)
        have r_67 := rg_i rx_50 (eq_rg q_51.symm ((ex_44.2) n_65)) (lo := 0) (hi := 99) (by decide) (by decide)
        refine g_aload_n C 1 dX12_readDish_50 rfl rfl ?_
        refine g_iconst C (v := 2) dX12_readDish_51 (by decide) ?_
        refine g_callVI C K (c_X12_isWord W9 hLx hkx 2 (rg_w rc_2 (by decide) (by decide)) hUI_56) hLx hkx (by decide) rfl v_12_191 rfl ⟨rfl, rfl⟩ ⟨Nat.le_of_ble_eq_true rfl, Nat.le_of_ble_eq_true rfl⟩ (Nat.le_of_ble_eq_true rfl) ⟨Nat.le_of_ble_eq_true rfl, Nat.le_of_ble_eq_true rfl⟩ dX12_readDish_52 rfl (st := []) (fun x_68 I_69 J_70 h_71 => ?_)
        obtain ⟨rfl, rfl, rx_68⟩ := h_71
        refine g_if_eq C (tgt := 82) dX12_readDish_55 (by decide) (fun h_72 => ?_) (fun h_72 => ?_)
        · skip
          have r_73 := (⟨(rx_68).1, (eq_rg (h_72) rc_0).2⟩ : Rg 0 0 x_68)
          refine g_lo (is := [1, 0]) (lo2 := [(0, .ref x), (1, .int x_24)]) rfl ?_
          exact j_82 I_56 J_57 hUI_56 hF_59 hG_60 x_24 (r_29) x_50 (r_67) (fq_at hFI_56 hLx hkx (by decide) (by decide) hx_50) q_61 (pg_fq (pg_t (pg_t (pg_t pg_rf ex_18.1.1) ex_32.1) ex_44.1.1) hFI_56 hLx hkx (by decide) (by decide)) (ps_fq (ps_t2 (pg_t (pg_t pg_rf ex_18.1.1) ex_32.1) (ex_44.1.2 n_65)) hFI_56 hLx hkx (by decide) (by decide))
        · skip
          have n_74 : ¬ x_68 = 0 := h_72
          have r_75 := ne_lo (lo := 1) n_74 rx_68 rc_0 rfl (by decide)
          refine g_aload_n C 1 dX12_readDish_58 rfl rfl ?_
          refine g_callVV C K (c_X12_go W9 hLx hkx   hUI_56) hLx hkx (by decide) rfl v_12_156 rfl ⟨rfl, rfl⟩ ⟨Nat.le_of_ble_eq_true rfl, Nat.le_of_ble_eq_true rfl⟩ (Nat.le_of_ble_eq_true rfl) ⟨Nat.le_of_ble_eq_true rfl, Nat.le_of_ble_eq_true rfl⟩ dX12_readDish_59 rfl (st := []) (fun I_77 J_78 h_79 => ?_)
          obtain ⟨hUI_77, hFI_77, hGJ_78, ex_76⟩ := h_79
          have hF_80 := fq_tr hF_59 hFI_77 (by decide)
          have hG_81 := fq_tr hG_60 hGJ_78 (by decide)
          refine g_aload_n C 1 dX12_readDish_62 rfl rfl ?_
          refine g_bipush C (v := 24) dX12_readDish_63 (by decide) ?_
          refine g_iload_n C 0 dX12_readDish_65 rfl rfl ?_
          obtain ⟨x_82, hx_82, rx_82, tx_82⟩ := ex_add 24 29 rc_24 r_29 (by decide) (by decide) (by decide) (by decide)
          refine g_iadd C (v := x_82) dX12_readDish_66 hx_82 ?_
          refine g_aload_n C 1 dX12_readDish_67 rfl rfl ?_
          refine g_iconst C (v := 1) dX12_readDish_68 (by decide) ?_
          refine g_bipush C (v := 9) dX12_readDish_69 (by decide) ?_
          refine g_callVI C K (c_X12_readNumber_1_9 W9 hLx hkx   hUI_77) hLx hkx (by decide) rfl v_12_184 rfl ⟨rfl, rfl⟩ ⟨Nat.le_of_ble_eq_true rfl, Nat.le_of_ble_eq_true rfl⟩ (Nat.le_of_ble_eq_true rfl) ⟨Nat.le_of_ble_eq_true rfl, Nat.le_of_ble_eq_true rfl⟩ dX12_readDish_71 rfl (st := [.int x_82, .ref x]) (fun x_83 I_84 J_85 h_86 => ?_)
          obtain ⟨hUI_84, hFI_84, hGJ_85, rx_83, ex_83⟩ := h_86
          have hF_87 := fq_tr hF_80 hFI_84 (by decide)
          have hG_88 := fq_tr hG_81 hGJ_85 (by decide)
          obtain ⟨x_89, hx_89, rx_89⟩ := ex_getw (I := I_84) (a := x) (j := 13) (lo := (-2147483648)) (hi := 2147483647) hUI_84.1 hLx (ro_o hkx (by decide)) rfl
          have q_90 := hx_89
          refine g_callVI C K (c_X12_put_24_29 W9 hLx hkx x_82 x_83 (rx_82) (rx_83) hUI_84  (fun hq => by have n_91 : ¬ x_83 = 0 := hq; have r_92 := ne_lo (lo := 1) n_91 rx_83 rc_0 rfl (by decide); have r_93 := rg_i rx_89 (eq_rg q_90.symm ((ex_83.2) n_91)) (lo := 1) (hi := 9) (by decide) (by decide); exact eq_rg hx_89 (rg_w r_93 (by decide) (by decide)))) hLx hkx (by decide) rfl v_12_187 rfl ⟨rfl, rfl⟩ ⟨Nat.le_of_ble_eq_true rfl, Nat.le_of_ble_eq_true rfl⟩ (Nat.le_of_ble_eq_true rfl) ⟨Nat.le_of_ble_eq_true rfl, Nat.le_of_ble_eq_true rfl⟩ dX12_readDish_74 rfl (st := []) (fun x_94 I_95 J_96 h_97 => ?_)
          obtain ⟨hUI_95, hFI_95, hGJ_96, rx_94, ex_94⟩ := h_97
          have hF_98 := fq_tr hF_87 hFI_95 (by decide)
          have hG_99 := fq_tr hG_88 hGJ_96 (by decide)
          have q_100 := ((ex_94.2 _ hb_1).2).trans (fq_ar hFI_84 hb_1L (ro_a hb_1k (by decide) hb_1o hkx rfl) (by decide) (by decide) (fq_ar hFI_77 hb_1L (ro_a hb_1k (by decide) hb_1o hkx rfl) (by decide) (by decide) q_61))
          refine g_if_ne C (tgt := 82) dX12_readDish_77 (by decide) (fun h_101 => ?_) (fun h_101 => ?_)
          · skip
            have n_102 : ¬ x_94 = 0 := h_101
            have r_103 := ne_lo (lo := 1) n_102 rx_94 rc_0 rfl (by decide)
            have n_104 : ¬ x_83 = 0 := (fun q => n_102 (Eq.trans ex_94.1 q))
            have r_105 := ne_lo (lo := 1) n_104 rx_83 rc_0 rfl (by decide)
            have r_106 := rg_i rx_89 (eq_rg q_90.symm ((ex_83.2) n_104)) (lo := 1) (hi := 9) (by decide) (by decide)
            refine g_lo (is := [1, 0]) (lo2 := [(0, .ref x), (1, .int x_24)]) rfl ?_
            exact j_82 I_95 J_96 hUI_95 hF_98 hG_99 x_24 (r_29) x_89 (rg_w r_106 (by decide) (by decide)) (fq_at hFI_95 hLx hkx (by decide) (by decide) hx_89) q_100 (pg_fq (pg_t (pg_s (ps_t2 (pg_fq (pg_t (pg_t (pg_t pg_rf ex_18.1.1) ex_32.1) ex_44.1.1) hFI_56 hLx hkx (by decide) (by decide)) ex_76)) ex_83.1.1) hFI_95 hLx hkx (by decide) (by decide)) (ps_fq (ps_t2 (pg_s (ps_t2 (pg_fq (pg_t (pg_t (pg_t pg_rf ex_18.1.1) ex_32.1) ex_44.1.1) hFI_56 hLx hkx (by decide) (by decide)) ex_76)) (ex_83.1.2 n_104)) hFI_95 hLx hkx (by decide) (by decide))
          · skip
            have r_107 := (⟨(rx_94).1, (eq_rg (h_101) rc_0).2⟩ : Rg 0 0 x_94)
            refine g_iconst C (v := 0) dX12_readDish_80 (by decide) ?_
            exact g_zret (ty := .boolean) (r := 0) B K rfl (rfl) ⟨hUI_95, hF_98, hG_99, rg_w rc_0 (by decide) (by decide), ⟨(pg_fq (pg_t (pg_s (ps_t2 (pg_fq (pg_t (pg_t (pg_t pg_rf ex_18.1.1) ex_32.1) ex_44.1.1) hFI_56 hLx hkx (by decide) (by decide)) ex_76)) ex_83.1.1) hFI_95 hLx hkx (by decide) (by decide)), fun q => absurd rfl q⟩⟩ dX12_readDish_81
      · skip
        have r_108 := (⟨(rx_55).1, (eq_rg (h_62) rc_0).2⟩ : Rg 0 0 x_55)
        refine g_iconst C (v := 0) dX12_readDish_48 (by decide) ?_
        exact g_zret (ty := .boolean) (r := 0) B K rfl (rfl) ⟨hUI_56, hF_59, hG_60, rg_w rc_0 (by decide) (by decide), ⟨(pg_fq (pg_t (pg_t (pg_t pg_rf ex_18.1.1) ex_32.1) ex_44.1.1) hFI_56 hLx hkx (by decide) (by decide)), fun q => absurd rfl q⟩⟩ dX12_readDish_49
  · skip
    have r_109 := (⟨(rx_18).1, (eq_rg (h_26) rc_0).2⟩ : Rg 0 0 x_18)
    refine g_iconst C (v := 0) dX12_readDish_10 (by decide) ?_
    exact g_zret (ty := .boolean) (r := 0) B K rfl (rfl) ⟨hUI_19, hF_22, hG_23, rg_w rc_0 (by decide) (by decide), ⟨(pg_t pg_rf ex_18.1.1), fun q => absurd rfl q⟩⟩ dX12_readDish_11
set_option maxRecDepth 100000 in
set_option maxHeartbeats 8000000 in
theorem c_X12_readLaw {l : Launch} {D : va_G} {cy : Nat → ClassId} {L : List Nat} {κ ln : Nat → Nat} {R : Nat → Nat → Option Nat} {I : Nat → Nat → Int32} {J : Nat → Nat → Int64} {ow : Nat → Nat × Nat} (W9 : ∀ a ∈ L, Shp L κ ln R ow a) {x : Nat} (hLx : x ∈ L) (hkx : κ x = 12) (hU : Iw L κ R ow I) : CtI l yX12_readLaw cX12_readLaw 2 (some .boolean) { frames := 3, cells := 0, slots := 0, locals := 69 } D cy L κ ln R I J [.ref x] (fun r I2 J2 => Iw L κ R ow I2 ∧ Fq L κ ow [1205, 1206, 1207, 1208, 1209, 1210, 1211, 1224, 83500] I I2 ∧ Fq L κ ow [1212] J J2 ∧ Rg 0 1 r ∧ (Pg_ x I I2 ∧ (¬ r = 0 → Ps_ x I I2))) := by
  refine CtI.of (by decide +kernel) (Nat.le_of_ble_eq_true rfl) ?_
  intro p e s m below meth c B K
  have C := B.1
  have hF : Fq L κ ow [1205, 1206, 1207, 1208, 1209, 1210, 1211, 1224, 83500] I I := fq_rf
  have hG : Fq L κ ow [1212] J J := fq_rf
  obtain ⟨b_1, hb_1, hb_1L, hb_1k, hb_1n, hb_1o⟩ := shp_a (W9 x hLx) hkx 15 14 72 rfl (by decide)
  refine g_lo (is := [0]) (lo2 := [(0, .ref x)]) rfl ?_
  have j_44 : ∀ (I_2 : Nat → Nat → Int32) (J_3 : Nat → Nat → Int64) (hU_4 : Iw L κ R ow I_2) (hF_5 : Fq L κ ow [1205, 1206, 1207, 1208, 1209, 1210, 1211, 1224, 83500] I I_2) (hG_6 : Fq L κ ow [1212] J J_3) (v_7 : Int32) (rv_7 : Rg 5 8 v_7) (q_8 : I_2 x 24 = 1) (pg_9 : Pg_ x I I_2) (ps_10 : Ps_ x I I_2), WG p l e { frames := 3, cells := 0, slots := 0, locals := 69 } s m ([.ref x] : List Value).toArray below meth c 2 0 0 (MQ below (Qi_ D cy L κ ln R (fun r I2 J2 => Iw L κ R ow I2 ∧ Fq L κ ow [1205, 1206, 1207, 1208, 1209, 1210, 1211, 1224, 83500] I I2 ∧ Fq L κ ow [1212] J J2 ∧ Rg 0 1 r ∧ (Pg_ x I I2 ∧ (¬ r = 0 → Ps_ x I I2)))) ([.ref x] : List Value).toArray s 0 0 (Al_ L)) D cy (Al_ L) s.heap L κ ln R I_2 J_3 44 [(0, .ref x), (1, .int v_7)] [] := by
    intro I_2 J_3 hU_4 hF_5 hG_6 v_7 rv_7 q_8 pg_9 ps_10
    refine g_iload_n C 1 dX12_readLaw_44 rfl rfl ?_
    refine g_bipush C (v := 7) dX12_readLaw_45 (by decide) ?_
    refine g_icmp_le C (tgt := 56) dX12_readLaw_47 (by decide) (fun h_11 => ?_) (fun h_11 => ?_)
    · skip
      have r_12 := le_l (h_11) rv_7 rc_7
      refine g_aload_n C 0 dX12_readLaw_56 rfl rfl ?_
      refine g_getR C K hLx hkx f_12_16 hb_1 dX12_readLaw_57 ?_
      refine g_iconst C (v := 2) dX12_readLaw_60 (by decide) ?_
      refine g_iload_n C 1 dX12_readLaw_61 rfl rfl ?_
      refine g_iconst C (v := 5) dX12_readLaw_62 (by decide) ?_
      obtain ⟨x_13, hx_13, rx_13, tx_13⟩ := ex_sub 0 2 r_12 rc_5 (by decide) (by decide) (by decide) (by decide)
      refine g_isub C (v := x_13) dX12_readLaw_63 hx_13 ?_
      refine h_iast C K hb_1L hb_1k (2) (by decide) (by decide) (by rw [hb_1n]; decide) dX12_readLaw_64 (fun I_14 hI_14 => ?_)
      have hU_15 := iw_put W9 hU_4 hI_14 (ro_a hb_1k (by decide) hb_1o hkx rfl) (lo := (-2147483648)) (hi := 2147483647) (by decide) (rg_all _) rfl
      have hF_16 := fq_puta hF_5 hI_14 (ro_a hb_1k (by decide) hb_1o hkx rfl) (by decide) (by decide)
      refine g_aload_n C 0 dX12_readLaw_65 rfl rfl ?_
      refine g_callVV C K (c_X12_go W9 hLx hkx   hU_15) hLx hkx (by decide) rfl v_12_156 rfl ⟨rfl, rfl⟩ ⟨Nat.le_of_ble_eq_true rfl, Nat.le_of_ble_eq_true rfl⟩ (Nat.le_of_ble_eq_true rfl) ⟨Nat.le_of_ble_eq_true rfl, Nat.le_of_ble_eq_true rfl⟩ dX12_readLaw_66 rfl (st := []) (fun I_18 J_19 h_20 => ?_)
      obtain ⟨hUI_18, hFI_18, hGJ_19, ex_17⟩ := h_20
      have hF_21 := fq_tr hF_16 hFI_18 (by decide)
      have hG_22 := fq_tr hG_6 hGJ_19 (by decide)
      refine g_iconst C (v := 1) dX12_readLaw_69 (by decide) ?_
      exact g_zret (ty := .boolean) (r := 1) B K rfl (rfl) ⟨hUI_18, hF_21, hG_22, rg_w rc_1 (by decide) (by decide), ⟨(pg_s (ps_t2 (pg_u pg_9 hI_14 (Or.inl (kn_k hkx hb_1k (by decide))) (Or.inl (kn_k hkx hb_1k (by decide)))) ex_17)), fun _ => (ps_t2 (pg_u pg_9 hI_14 (Or.inl (kn_k hkx hb_1k (by decide))) (Or.inl (kn_k hkx hb_1k (by decide)))) ex_17)⟩⟩ dX12_readLaw_70
    · skip
      have r_23 := lt_r (lo := 8) (nle h_11) rc_7 rv_7 (by decide)
      refine g_aload_n C 0 dX12_readLaw_50 rfl rfl ?_
      refine g_iconst C (v := 1) dX12_readLaw_51 (by decide) ?_
      refine g_callVI C K (c_X12_bad W9 hLx hkx 1 (rg_w rc_1 (by decide) (by decide)) hU_4) hLx hkx (by decide) rfl v_12_146 rfl ⟨rfl, rfl⟩ ⟨Nat.le_of_ble_eq_true rfl, Nat.le_of_ble_eq_true rfl⟩ (Nat.le_of_ble_eq_true rfl) ⟨Nat.le_of_ble_eq_true rfl, Nat.le_of_ble_eq_true rfl⟩ dX12_readLaw_52 rfl (st := []) (fun x_24 I_25 J_26 h_27 => ?_)
      obtain ⟨hUI_25, hFI_25, hGJ_26, rx_24⟩ := h_27
      have hF_28 := fq_tr hF_5 hFI_25 (by decide)
      have hG_29 := fq_tr hG_6 hGJ_26 (by decide)
      exact g_zret (ty := .boolean) (r := x_24) B K rfl (nar_z (rg_w rx_24 (by decide) (by decide))) ⟨hUI_25, hF_28, hG_29, rg_w rx_24 (by decide) (by decide), ⟨(pg_fq pg_9 hFI_25 hLx hkx (by decide) (by decide)), fun q => ne_no q rx_24 rc_0⟩⟩ dX12_readLaw_55
  have l_24 : ∀ (n_24 : Nat) (I_30 : Nat → Nat → Int32) (J_31 : Nat → Nat → Int64) (hU_32 : Iw L κ R ow I_30) (hF_33 : Fq L κ ow [1205, 1206, 1207, 1208, 1209, 1210, 1211, 1224, 83500] I I_30) (hG_34 : Fq L κ ow [1212] J J_31) (v_35 : Int32) (rv_35 : Rg 5 8 v_35) (q_36 : I_30 x 24 = 1) (pg_37 : Pg_ x I I_30) (ps_38 : Ps_ x I I_30) (hm_39 : 8 < (v_35 : Int32).toInt + (n_24 : Int)), WG p l e { frames := 3, cells := 0, slots := 0, locals := 69 } s m ([.ref x] : List Value).toArray below meth c 2 0 0 (MQ below (Qi_ D cy L κ ln R (fun r I2 J2 => Iw L κ R ow I2 ∧ Fq L κ ow [1205, 1206, 1207, 1208, 1209, 1210, 1211, 1224, 83500] I I2 ∧ Fq L κ ow [1212] J J2 ∧ Rg 0 1 r ∧ (Pg_ x I I2 ∧ (¬ r = 0 → Ps_ x I I2)))) ([.ref x] : List Value).toArray s 0 0 (Al_ L)) D cy (Al_ L) s.heap L κ ln R I_30 J_31 24 [(0, .ref x), (1, .int v_35)] [] := by
    intro n_24
    induction n_24 with
    | zero =>
      intro I_30 J_31 hU_32 hF_33 hG_34 v_35 rv_35 q_36 pg_37 ps_38 hm_39
      exact ms_0 rv_35 hm_39
    | succ n_24 ih_24 =>
      intro I_30 J_31 hU_32 hF_33 hG_34 v_35 rv_35 q_36 pg_37 ps_38 hm_39
      refine g_iload_n C 1 dX12_readLaw_24 rfl rfl ?_
      refine g_bipush C (v := 7) dX12_readLaw_25 (by decide) ?_
      refine g_icmp_gt C (tgt := 44) dX12_readLaw_27 (by decide) (fun h_40 => ?_) (fun h_40 => ?_)
      · skip
        have r_41 := lt_r (lo := 8) (h_40) rc_7 rv_35 (by decide)
        refine g_lo (is := [0, 1]) (lo2 := [(0, .ref x), (1, .int v_35)]) rfl ?_
        exact j_44 I_30 J_31 hU_32 hF_33 hG_34 v_35 (rg_w r_41 (by decide) (by decide)) q_36 pg_37 ps_38
      · skip
        have r_42 := le_l (nlt h_40) rv_35 rc_7
        refine g_aload_n C 0 dX12_readLaw_30 rfl rfl ?_
        refine g_iload_n C 1 dX12_readLaw_31 rfl rfl ?_
        refine g_callVI C K (c_X12_isWord W9 hLx hkx v_35 (rg_w r_42 (by decide) (by decide)) hU_32) hLx hkx (by decide) rfl v_12_191 rfl ⟨rfl, rfl⟩ ⟨Nat.le_of_ble_eq_true rfl, Nat.le_of_ble_eq_true rfl⟩ (Nat.le_of_ble_eq_true rfl) ⟨Nat.le_of_ble_eq_true rfl, Nat.le_of_ble_eq_true rfl⟩ dX12_readLaw_32 rfl (st := []) (fun x_43 I_44 J_45 h_46 => ?_)
        obtain ⟨rfl, rfl, rx_43⟩ := h_46
        refine g_if_ne C (tgt := 44) dX12_readLaw_35 (by decide) (fun h_47 => ?_) (fun h_47 => ?_)
        · skip
          have n_48 : ¬ x_43 = 0 := h_47
          have r_49 := ne_lo (lo := 1) n_48 rx_43 rc_0 rfl (by decide)
          refine g_lo (is := [0, 1]) (lo2 := [(0, .ref x), (1, .int v_35)]) rfl ?_
          exact j_44 I_30 J_31 hU_32 hF_33 hG_34 v_35 (rg_w r_42 (by decide) (by decide)) q_36 pg_37 ps_38
        · skip
          have r_50 := (⟨(rx_43).1, (eq_rg (h_47) rc_0).2⟩ : Rg 0 0 x_43)
          obtain ⟨x_51, hx_51, rx_51, tx_51⟩ := ex_add (y := 1) 6 8 r_42 rc_1 (by decide) (by decide) (by decide) (by decide)
          refine g_iinc C dX12_readLaw_38 (k := 1) (v := x_51) rfl hx_51 (by decide) (lo2 := [(1, .int x_51), (0, .ref x)]) rfl ?_
          refine g_goto C (tgt := 24) dX12_readLaw_41 (by decide) ?_
          refine g_lo (is := [1, 0]) (lo2 := [(0, .ref x), (1, .int x_51)]) rfl ?_
          exact ih_24 I_30 J_31 hU_32 hF_33 hG_34 x_51 (rg_w rx_51 (by decide) (by decide)) q_36 pg_37 ps_38 (ms_1 hm_39 (ti_k tx_51 rc_1) (by decide))
  refine g_aload_n C 0 dX12_readLaw_0 rfl rfl ?_
  obtain ⟨x_52, hx_52, rx_52⟩ := ex_getw (I := I) (a := x) (j := 24) (lo := 0) (hi := 1) hU.1 hLx (ro_o hkx (by decide)) rfl
  refine g_getI C K hLx hkx f_12_197 (v := x_52) hx_52 dX12_readLaw_1 ?_
  refine g_if_eq C (tgt := 13) dX12_readLaw_4 (by decide) (fun h_53 => ?_) (fun h_53 => ?_)
  · skip
    have r_54 := (⟨(rx_52).1, (eq_rg (h_53) rc_0).2⟩ : Rg 0 0 x_52)
    refine g_aload_n C 0 dX12_readLaw_13 rfl rfl ?_
    refine g_iconst C (v := 1) dX12_readLaw_14 (by decide) ?_
    refine h_putZ C K hLx hkx f_12_197 p_12_24 (rg_bool (rg_w rc_1 (by decide) (by decide))) dX12_readLaw_15 (fun I_55 hI_55 => ?_)
    have hU_56 := iw_put W9 hU hI_55 (ro_o hkx (by decide)) (lo := 0) (hi := 1) (rfl) (rg_w rc_1 (by decide) (by decide)) rfl
    have hF_57 := fq_puto hF hI_55 hkx (by decide) (by decide)
    refine g_aload_n C 0 dX12_readLaw_18 rfl rfl ?_
    refine g_callVV C K (c_X12_go W9 hLx hkx   hU_56) hLx hkx (by decide) rfl v_12_156 rfl ⟨rfl, rfl⟩ ⟨Nat.le_of_ble_eq_true rfl, Nat.le_of_ble_eq_true rfl⟩ (Nat.le_of_ble_eq_true rfl) ⟨Nat.le_of_ble_eq_true rfl, Nat.le_of_ble_eq_true rfl⟩ dX12_readLaw_19 rfl (st := []) (fun I_59 J_60 h_61 => ?_)
    obtain ⟨hUI_59, hFI_59, hGJ_60, ex_58⟩ := h_61
    have hF_62 := fq_tr hF_57 hFI_59 (by decide)
    have hG_63 := fq_tr hG hGJ_60 (by decide)
    refine g_iconst C (v := 5) dX12_readLaw_22 (by decide) ?_
    refine g_istore_n C dX12_readLaw_23 rfl (by decide) (lo2 := [(1, .int 5), (0, .ref x)]) rfl ?_
    refine g_lo (is := [1, 0]) (lo2 := [(0, .ref x), (1, .int 5)]) rfl ?_
    exact l_24 4 I_59 J_60 hUI_59 hF_62 hG_63 5 (rg_w rc_5 (by decide) (by decide)) (fq_at hFI_59 hLx hkx (by decide) (by decide) (kp_s hI_55)) (pg_s (ps_t2 (pg_u pg_rf hI_55 (Or.inr (by decide)) (Or.inr (by decide))) ex_58)) (ps_t2 (pg_u pg_rf hI_55 (Or.inr (by decide)) (Or.inr (by decide))) ex_58) (ms_s (a := 5) (b := 8) (N := 4) (rg_w rc_5 (by decide) (by decide)) (by decide))
  · skip
    have n_64 : ¬ x_52 = 0 := h_53
    have r_65 := ne_lo (lo := 1) n_64 rx_52 rc_0 rfl (by decide)
    refine g_aload_n C 0 dX12_readLaw_7 rfl rfl ?_
    refine g_iconst C (v := 3) dX12_readLaw_8 (by decide) ?_
    refine g_callVI C K (c_X12_bad W9 hLx hkx 3 (rg_w rc_3 (by decide) (by decide)) hU) hLx hkx (by decide) rfl v_12_146 rfl ⟨rfl, rfl⟩ ⟨Nat.le_of_ble_eq_true rfl, Nat.le_of_ble_eq_true rfl⟩ (Nat.le_of_ble_eq_true rfl) ⟨Nat.le_of_ble_eq_true rfl, Nat.le_of_ble_eq_true rfl⟩ dX12_readLaw_9 rfl (st := []) (fun x_66 I_67 J_68 h_69 => ?_)
    obtain ⟨hUI_67, hFI_67, hGJ_68, rx_66⟩ := h_69
    have hF_70 := fq_tr hF hFI_67 (by decide)
    have hG_71 := fq_tr hG hGJ_68 (by decide)
    exact g_zret (ty := .boolean) (r := x_66) B K rfl (nar_z (rg_w rx_66 (by decide) (by decide))) ⟨hUI_67, hF_70, hG_71, rg_w rx_66 (by decide) (by decide), ⟨(pg_fq pg_rf hFI_67 hLx hkx (by decide) (by decide)), fun q => ne_no q rx_66 rc_0⟩⟩ dX12_readLaw_12
