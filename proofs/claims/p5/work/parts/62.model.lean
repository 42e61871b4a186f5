theorem dX12_findIn_0 : decode cX12_findIn 0 = .ok (.iconst 0, 1) := by decide +kernel
theorem dX12_findIn_1 : decode cX12_findIn 1 = .ok (.istore 5, 2) := by decide +kernel
theorem dX12_findIn_3 : decode cX12_findIn 3 = .ok (.iload 5, 2) := by decide +kernel
theorem dX12_findIn_5 : decode cX12_findIn 5 = .ok (.iload_n 2, 1) := by decide +kernel
theorem dX12_findIn_6 : decode cX12_findIn 6 = .ok (.if_icmp .ge 23, 3) := by decide +kernel
theorem dX12_findIn_9 : decode cX12_findIn 9 = .ok (.aload_n 0, 1) := by decide +kernel
theorem dX12_findIn_10 : decode cX12_findIn 10 = .ok (.iload_n 1, 1) := by decide +kernel
theorem dX12_findIn_11 : decode cX12_findIn 11 = .ok (.iload 5, 2) := by decide +kernel
theorem dX12_findIn_13 : decode cX12_findIn 13 = .ok (.iadd, 1) := by decide +kernel
theorem dX12_findIn_14 : decode cX12_findIn 14 = .ok (.laload, 1) := by decide +kernel
theorem dX12_findIn_15 : decode cX12_findIn 15 = .ok (.lload_n 3, 1) := by decide +kernel
theorem dX12_findIn_16 : decode cX12_findIn 16 = .ok (.lcmp, 1) := by decide +kernel
theorem dX12_findIn_17 : decode cX12_findIn 17 = .ok (.ifCond .ne 6, 3) := by decide +kernel
theorem dX12_findIn_20 : decode cX12_findIn 20 = .ok (.iload 5, 2) := by decide +kernel
theorem dX12_findIn_22 : decode cX12_findIn 22 = .ok (.ireturn, 1) := by decide +kernel
theorem dX12_findIn_23 : decode cX12_findIn 23 = .ok (.iinc 5 1, 3) := by decide +kernel
theorem dX12_findIn_26 : decode cX12_findIn 26 = .ok (.goto (-23), 3) := by decide +kernel
theorem dX12_findIn_29 : decode cX12_findIn 29 = .ok (.iconst (-1), 1) := by decide +kernel
theorem dX12_findIn_30 : decode cX12_findIn 30 = .ok (.ireturn, 1) := by decide +kernel
theorem dX12_isIn_0 : decode cX12_isIn 0 = .ok (.iload_n 0, 1) := by decide +kernel
theorem dX12_isIn_1 : decode cX12_isIn 1 = .ok (.iload_n 1, 1) := by decide +kernel
theorem dX12_isIn_2 : decode cX12_isIn 2 = .ok (.if_icmp .lt 12, 3) := by decide +kernel
theorem dX12_isIn_5 : decode cX12_isIn 5 = .ok (.iload_n 0, 1) := by decide +kernel
theorem dX12_isIn_6 : decode cX12_isIn 6 = .ok (.iload_n 2, 1) := by decide +kernel
theorem dX12_isIn_7 : decode cX12_isIn 7 = .ok (.if_icmp .gt 7, 3) := by decide +kernel
theorem dX12_isIn_10 : decode cX12_isIn 10 = .ok (.iconst 1, 1) := by decide +kernel
theorem dX12_isIn_11 : decode cX12_isIn 11 = .ok (.goto 4, 3) := by decide +kernel
theorem dX12_isIn_14 : decode cX12_isIn 14 = .ok (.iconst 0, 1) := by decide +kernel
theorem dX12_isIn_15 : decode cX12_isIn 15 = .ok (.ireturn, 1) := by decide +kernel
theorem dX12_isName_0 : decode cX12_isName 0 = .ok (.aload_n 0, 1) := by decide +kernel
theorem dX12_isName_1 : decode cX12_isName 1 = .ok (.getfield 104, 3) := by decide +kernel
theorem dX12_isName_4 : decode cX12_isName 4 = .ok (.iconst 2, 1) := by decide +kernel
theorem dX12_isName_5 : decode cX12_isName 5 = .ok (.if_icmp .eq 5, 3) := by decide +kernel
theorem dX12_isName_8 : decode cX12_isName 8 = .ok (.iconst 0, 1) := by decide +kernel
theorem dX12_isName_9 : decode cX12_isName 9 = .ok (.ireturn, 1) := by decide +kernel
theorem dX12_isName_10 : decode cX12_isName 10 = .ok (.iconst 0, 1) := by decide +kernel
theorem dX12_isName_11 : decode cX12_isName 11 = .ok (.istore_n 1, 1) := by decide +kernel
theorem dX12_isName_12 : decode cX12_isName 12 = .ok (.iload_n 1, 1) := by decide +kernel
theorem dX12_isName_13 : decode cX12_isName 13 = .ok (.bipush 27, 2) := by decide +kernel
theorem dX12_isName_15 : decode cX12_isName 15 = .ok (.if_icmp .gt 23, 3) := by decide +kernel
theorem dX12_isName_18 : decode cX12_isName 18 = .ok (.aload_n 0, 1) := by decide +kernel
theorem dX12_isName_19 : decode cX12_isName 19 = .ok (.getfield 117, 3) := by decide +kernel
theorem dX12_isName_22 : decode cX12_isName 22 = .ok (.iload_n 1, 1) := by decide +kernel
theorem dX12_isName_23 : decode cX12_isName 23 = .ok (.invokestatic 136, 3) := by decide +kernel
theorem dX12_isName_26 : decode cX12_isName 26 = .ok (.lcmp, 1) := by decide +kernel
theorem dX12_isName_27 : decode cX12_isName 27 = .ok (.ifCond .ne 5, 3) := by decide +kernel
theorem dX12_isName_30 : decode cX12_isName 30 = .ok (.iconst 0, 1) := by decide +kernel
theorem dX12_isName_31 : decode cX12_isName 31 = .ok (.ireturn, 1) := by decide +kernel
theorem dX12_isName_32 : decode cX12_isName 32 = .ok (.iinc 1 1, 3) := by decide +kernel
theorem dX12_isName_35 : decode cX12_isName 35 = .ok (.goto (-23), 3) := by decide +kernel
theorem dX12_isName_38 : decode cX12_isName 38 = .ok (.iconst 1, 1) := by decide +kernel
theorem dX12_isName_39 : decode cX12_isName 39 = .ok (.ireturn, 1) := by decide +kernel
theorem dX12_isWord_0 : decode cX12_isWord 0 = .ok (.aload_n 0, 1) := by decide +kernel
theorem dX12_isWord_1 : decode cX12_isWord 1 = .ok (.getfield 104, 3) := by decide +kernel
theorem dX12_isWord_4 : decode cX12_isWord 4 = .ok (.iconst 2, 1) := by decide +kernel
theorem dX12_isWord_5 : decode cX12_isWord 5 = .ok (.if_icmp .ne 19, 3) := by decide +kernel
theorem dX12_isWord_8 : decode cX12_isWord 8 = .ok (.aload_n 0, 1) := by decide +kernel
theorem dX12_isWord_9 : decode cX12_isWord 9 = .ok (.getfield 117, 3) := by decide +kernel
theorem dX12_isWord_12 : decode cX12_isWord 12 = .ok (.iload_n 1, 1) := by decide +kernel
theorem dX12_isWord_13 : decode cX12_isWord 13 = .ok (.invokestatic 136, 3) := by decide +kernel
theorem dX12_isWord_16 : decode cX12_isWord 16 = .ok (.lcmp, 1) := by decide +kernel
theorem dX12_isWord_17 : decode cX12_isWord 17 = .ok (.ifCond .ne 7, 3) := by decide +kernel
theorem dX12_isWord_20 : decode cX12_isWord 20 = .ok (.iconst 1, 1) := by decide +kernel
theorem dX12_isWord_21 : decode cX12_isWord 21 = .ok (.goto 4, 3) := by decide +kernel
theorem dX12_isWord_24 : decode cX12_isWord 24 = .ok (.iconst 0, 1) := by decide +kernel
theorem dX12_isWord_25 : decode cX12_isWord 25 = .ok (.ireturn, 1) := by decide +kernel
theorem dX12_put_0 : decode cX12_put 0 = .ok (.iload_n 2, 1) := by decide +kernel
theorem dX12_put_1 : decode cX12_put 1 = .ok (.ifCond .eq 13, 3) := by decide +kernel
theorem dX12_put_4 : decode cX12_put 4 = .ok (.aload_n 0, 1) := by decide +kernel
theorem dX12_put_5 : decode cX12_put 5 = .ok (.getfield 16, 3) := by decide +kernel
theorem dX12_put_8 : decode cX12_put 8 = .ok (.iload_n 1, 1) := by decide +kernel
theorem dX12_put_9 : decode cX12_put 9 = .ok (.aload_n 0, 1) := by decide +kernel
theorem dX12_put_10 : decode cX12_put 10 = .ok (.getfield 153, 3) := by decide +kernel
theorem dX12_put_13 : decode cX12_put 13 = .ok (.iastore, 1) := by decide +kernel
theorem dX12_put_14 : decode cX12_put 14 = .ok (.iload_n 2, 1) := by decide +kernel
theorem dX12_put_15 : decode cX12_put 15 = .ok (.ireturn, 1) := by decide +kernel
theorem dX12_readDish_0 : decode cX12_readDish 0 = .ok (.aload_n 0, 1) := by decide +kernel
theorem dX12_readDish_1 : decode cX12_readDish 1 = .ok (.iconst 1, 1) := by decide +kernel
theorem dX12_readDish_2 : decode cX12_readDish 2 = .ok (.bipush 6, 2) := by decide +kernel
theorem dX12_readDish_4 : decode cX12_readDish 4 = .ok (.invokevirtual 178, 3) := by decide +kernel
theorem dX12_readDish_7 : decode cX12_readDish 7 = .ok (.ifCond .ne 5, 3) := by decide +kernel
theorem dX12_readDish_10 : decode cX12_readDish 10 = .ok (.iconst 0, 1) := by decide +kernel
theorem dX12_readDish_11 : decode cX12_readDish 11 = .ok (.ireturn, 1) := by decide +kernel
theorem dX12_readDish_12 : decode cX12_readDish 12 = .ok (.aload_n 0, 1) := by decide +kernel
theorem dX12_readDish_13 : decode cX12_readDish 13 = .ok (.getfield 16, 3) := by decide +kernel
theorem dX12_readDish_16 : decode cX12_readDish 16 = .ok (.iconst 1, 1) := by decide +kernel
theorem dX12_readDish_17 : decode cX12_readDish 17 = .ok (.iaload, 1) := by decide +kernel
theorem dX12_readDish_18 : decode cX12_readDish 18 = .ok (.istore_n 1, 1) := by decide +kernel
theorem dX12_readDish_19 : decode cX12_readDish 19 = .ok (.aload_n 0, 1) := by decide +kernel
theorem dX12_readDish_20 : decode cX12_readDish 20 = .ok (.bipush 7, 2) := by decide +kernel
theorem dX12_readDish_22 : decode cX12_readDish 22 = .ok (.iload_n 1, 1) := by decide +kernel
theorem dX12_readDish_23 : decode cX12_readDish 23 = .ok (.iadd, 1) := by decide +kernel
theorem dX12_readDish_24 : decode cX12_readDish 24 = .ok (.invokevirtual 181, 3) := by decide +kernel
theorem dX12_readDish_27 : decode cX12_readDish 27 = .ok (.ifCond .eq 21, 3) := by decide +kernel
theorem dX12_readDish_30 : decode cX12_readDish 30 = .ok (.aload_n 0, 1) := by decide +kernel
theorem dX12_readDish_31 : decode cX12_readDish 31 = .ok (.bipush 18, 2) := by decide +kernel
theorem dX12_readDish_33 : decode cX12_readDish 33 = .ok (.iload_n 1, 1) := by decide +kernel
theorem dX12_readDish_34 : decode cX12_readDish 34 = .ok (.iadd, 1) := by decide +kernel
theorem dX12_readDish_35 : decode cX12_readDish 35 = .ok (.aload_n 0, 1) := by decide +kernel
theorem dX12_readDish_36 : decode cX12_readDish 36 = .ok (.iconst 0, 1) := by decide +kernel
theorem dX12_readDish_37 : decode cX12_readDish 37 = .ok (.bipush 99, 2) := by decide +kernel
theorem dX12_readDish_39 : decode cX12_readDish 39 = .ok (.invokevirtual 184, 3) := by decide +kernel
theorem dX12_readDish_42 : decode cX12_readDish 42 = .ok (.invokevirtual 187, 3) := by decide +kernel
theorem dX12_readDish_45 : decode cX12_readDish 45 = .ok (.ifCond .ne 5, 3) := by decide +kernel
theorem dX12_readDish_48 : decode cX12_readDish 48 = .ok (.iconst 0, 1) := by decide +kernel
theorem dX12_readDish_49 : decode cX12_readDish 49 = .ok (.ireturn, 1) := by decide +kernel
theorem dX12_readDish_50 : decode cX12_readDish 50 = .ok (.aload_n 0, 1) := by decide +kernel
theorem dX12_readDish_51 : decode cX12_readDish 51 = .ok (.iconst 2, 1) := by decide +kernel
theorem dX12_readDish_52 : decode cX12_readDish 52 = .ok (.invokevirtual 191, 3) := by decide +kernel
theorem dX12_readDish_55 : decode cX12_readDish 55 = .ok (.ifCond .eq 27, 3) := by decide +kernel
theorem dX12_readDish_58 : decode cX12_readDish 58 = .ok (.aload_n 0, 1) := by decide +kernel
theorem dX12_readDish_59 : decode cX12_readDish 59 = .ok (.invokevirtual 156, 3) := by decide +kernel
theorem dX12_readDish_62 : decode cX12_readDish 62 = .ok (.aload_n 0, 1) := by decide +kernel
theorem dX12_readDish_63 : decode cX12_readDish 63 = .ok (.bipush 24, 2) := by decide +kernel
theorem dX12_readDish_65 : decode cX12_readDish 65 = .ok (.iload_n 1, 1) := by decide +kernel
theorem dX12_readDish_66 : decode cX12_readDish 66 = .ok (.iadd, 1) := by decide +kernel
theorem dX12_readDish_67 : decode cX12_readDish 67 = .ok (.aload_n 0, 1) := by decide +kernel
theorem dX12_readDish_68 : decode cX12_readDish 68 = .ok (.iconst 1, 1) := by decide +kernel
theorem dX12_readDish_69 : decode cX12_readDish 69 = .ok (.bipush 9, 2) := by decide +kernel
theorem dX12_readDish_71 : decode cX12_readDish 71 = .ok (.invokevirtual 184, 3) := by decide +kernel
theorem dX12_readDish_74 : decode cX12_readDish 74 = .ok (.invokevirtual 187, 3) := by decide +kernel
theorem dX12_readDish_77 : decode cX12_readDish 77 = .ok (.ifCond .ne 5, 3) := by decide +kernel
theorem dX12_readDish_80 : decode cX12_readDish 80 = .ok (.iconst 0, 1) := by decide +kernel
theorem dX12_readDish_81 : decode cX12_readDish 81 = .ok (.ireturn, 1) := by decide +kernel
theorem dX12_readDish_82 : decode cX12_readDish 82 = .ok (.aload_n 0, 1) := by decide +kernel
theorem dX12_readDish_83 : decode cX12_readDish 83 = .ok (.getfield 16, 3) := by decide +kernel
theorem dX12_readDish_86 : decode cX12_readDish 86 = .ok (.iconst 1, 1) := by decide +kernel
theorem dX12_readDish_87 : decode cX12_readDish 87 = .ok (.dup2, 1) := by decide +kernel
theorem dX12_readDish_88 : decode cX12_readDish 88 = .ok (.iaload, 1) := by decide +kernel
theorem dX12_readDish_89 : decode cX12_readDish 89 = .ok (.iconst 1, 1) := by decide +kernel
theorem dX12_readDish_90 : decode cX12_readDish 90 = .ok (.iadd, 1) := by decide +kernel
theorem dX12_readDish_91 : decode cX12_readDish 91 = .ok (.iastore, 1) := by decide +kernel
theorem dX12_readDish_92 : decode cX12_readDish 92 = .ok (.iconst 1, 1) := by decide +kernel
theorem dX12_readDish_93 : decode cX12_readDish 93 = .ok (.ireturn, 1) := by decide +kernel
theorem dX12_readFirst_0 : decode cX12_readFirst 0 = .ok (.aload_n 0, 1) := by decide +kernel
theorem dX12_readFirst_1 : decode cX12_readFirst 1 = .ok (.getfield 16, 3) := by decide +kernel
theorem dX12_readFirst_4 : decode cX12_readFirst 4 = .ok (.iload_n 1, 1) := by decide +kernel
theorem dX12_readFirst_5 : decode cX12_readFirst 5 = .ok (.iaload, 1) := by decide +kernel
theorem dX12_readFirst_6 : decode cX12_readFirst 6 = .ok (.iload_n 2, 1) := by decide +kernel
theorem dX12_readFirst_7 : decode cX12_readFirst 7 = .ok (.if_icmp .ne 9, 3) := by decide +kernel
theorem dX12_readFirst_10 : decode cX12_readFirst 10 = .ok (.aload_n 0, 1) := by decide +kernel
theorem dX12_readFirst_11 : decode cX12_readFirst 11 = .ok (.iconst 4, 1) := by decide +kernel
theorem dX12_readFirst_12 : decode cX12_readFirst 12 = .ok (.invokevirtual 146, 3) := by decide +kernel
theorem dX12_readFirst_15 : decode cX12_readFirst 15 = .ok (.ireturn, 1) := by decide +kernel
theorem dX12_readFirst_16 : decode cX12_readFirst 16 = .ok (.aload_n 0, 1) := by decide +kernel
theorem dX12_readFirst_17 : decode cX12_readFirst 17 = .ok (.invokevirtual 156, 3) := by decide +kernel
theorem dX12_readFirst_20 : decode cX12_readFirst 20 = .ok (.iconst 1, 1) := by decide +kernel
theorem dX12_readFirst_21 : decode cX12_readFirst 21 = .ok (.ireturn, 1) := by decide +kernel
theorem dX12_readLaw_0 : decode cX12_readLaw 0 = .ok (.aload_n 0, 1) := by decide +kernel
theorem dX12_readLaw_1 : decode cX12_readLaw 1 = .ok (.getfield 197, 3) := by decide +kernel
theorem dX12_readLaw_4 : decode cX12_readLaw 4 = .ok (.ifCond .eq 9, 3) := by decide +kernel
theorem dX12_readLaw_7 : decode cX12_readLaw 7 = .ok (.aload_n 0, 1) := by decide +kernel
theorem dX12_readLaw_8 : decode cX12_readLaw 8 = .ok (.iconst 3, 1) := by decide +kernel
theorem dX12_readLaw_9 : decode cX12_readLaw 9 = .ok (.invokevirtual 146, 3) := by decide +kernel
theorem dX12_readLaw_12 : decode cX12_readLaw 12 = .ok (.ireturn, 1) := by decide +kernel
theorem dX12_readLaw_13 : decode cX12_readLaw 13 = .ok (.aload_n 0, 1) := by decide +kernel
theorem dX12_readLaw_14 : decode cX12_readLaw 14 = .ok (.iconst 1, 1) := by decide +kernel
theorem dX12_readLaw_15 : decode cX12_readLaw 15 = .ok (.putfield 197, 3) := by decide +kernel
theorem dX12_readLaw_18 : decode cX12_readLaw 18 = .ok (.aload_n 0, 1) := by decide +kernel
theorem dX12_readLaw_19 : decode cX12_readLaw 19 = .ok (.invokevirtual 156, 3) := by decide +kernel
theorem dX12_readLaw_22 : decode cX12_readLaw 22 = .ok (.iconst 5, 1) := by decide +kernel
theorem dX12_readLaw_23 : decode cX12_readLaw 23 = .ok (.istore_n 1, 1) := by decide +kernel
theorem dX12_readLaw_24 : decode cX12_readLaw 24 = .ok (.iload_n 1, 1) := by decide +kernel
theorem dX12_readLaw_25 : decode cX12_readLaw 25 = .ok (.bipush 7, 2) := by decide +kernel
theorem dX12_readLaw_27 : decode cX12_readLaw 27 = .ok (.if_icmp .gt 17, 3) := by decide +kernel
theorem dX12_readLaw_30 : decode cX12_readLaw 30 = .ok (.aload_n 0, 1) := by decide +kernel
theorem dX12_readLaw_31 : decode cX12_readLaw 31 = .ok (.iload_n 1, 1) := by decide +kernel
theorem dX12_readLaw_32 : decode cX12_readLaw 32 = .ok (.invokevirtual 191, 3) := by decide +kernel
theorem dX12_readLaw_35 : decode cX12_readLaw 35 = .ok (.ifCond .ne 9, 3) := by decide +kernel
theorem dX12_readLaw_38 : decode cX12_readLaw 38 = .ok (.iinc 1 1, 3) := by decide +kernel
theorem dX12_readLaw_41 : decode cX12_readLaw 41 = .ok (.goto (-17), 3) := by decide +kernel
theorem dX12_readLaw_44 : decode cX12_readLaw 44 = .ok (.iload_n 1, 1) := by decide +kernel
theorem dX12_readLaw_45 : decode cX12_readLaw 45 = .ok (.bipush 7, 2) := by decide +kernel
theorem dX12_readLaw_47 : decode cX12_readLaw 47 = .ok (.if_icmp .le 9, 3) := by decide +kernel
theorem dX12_readLaw_50 : decode cX12_readLaw 50 = .ok (.aload_n 0, 1) := by decide +kernel
theorem dX12_readLaw_51 : decode cX12_readLaw 51 = .ok (.iconst 1, 1) := by decide +kernel
theorem dX12_readLaw_52 : decode cX12_readLaw 52 = .ok (.invokevirtual 146, 3) := by decide +kernel
theorem dX12_readLaw_55 : decode cX12_readLaw 55 = .ok (.ireturn, 1) := by decide +kernel
theorem dX12_readLaw_56 : decode cX12_readLaw 56 = .ok (.aload_n 0, 1) := by decide +kernel
theorem dX12_readLaw_57 : decode cX12_readLaw 57 = .ok (.getfield 16, 3) := by decide +kernel
theorem dX12_readLaw_60 : decode cX12_readLaw 60 = .ok (.iconst 2, 1) := by decide +kernel
theorem dX12_readLaw_61 : decode cX12_readLaw 61 = .ok (.iload_n 1, 1) := by decide +kernel
theorem dX12_readLaw_62 : decode cX12_readLaw 62 = .ok (.iconst 5, 1) := by decide +kernel
theorem dX12_readLaw_63 : decode cX12_readLaw 63 = .ok (.isub, 1) := by decide +kernel
theorem dX12_readLaw_64 : decode cX12_readLaw 64 = .ok (.iastore, 1) := by decide +kernel
theorem dX12_readLaw_65 : decode cX12_readLaw 65 = .ok (.aload_n 0, 1) := by decide +kernel
theorem dX12_readLaw_66 : decode cX12_readLaw 66 = .ok (.invokevirtual 156, 3) := by decide +kernel
theorem dX12_readLaw_69 : decode cX12_readLaw 69 = .ok (.iconst 1, 1) := by decide +kernel
theorem dX12_readLaw_70 : decode cX12_readLaw 70 = .ok (.ireturn, 1) := by decide +kernel
theorem dX12_readNew_0 : decode cX12_readNew 0 = .ok (.aload_n 0, 1) := by decide +kernel
theorem dX12_readNew_1 : decode cX12_readNew 1 = .ok (.invokevirtual 166, 3) := by decide +kernel
theorem dX12_readNew_4 : decode cX12_readNew 4 = .ok (.ifCond .ne 9, 3) := by decide +kernel
theorem dX12_readNew_7 : decode cX12_readNew 7 = .ok (.aload_n 0, 1) := by decide +kernel
theorem dX12_readNew_8 : decode cX12_readNew 8 = .ok (.iconst 1, 1) := by decide +kernel
theorem dX12_readNew_9 : decode cX12_readNew 9 = .ok (.invokevirtual 146, 3) := by decide +kernel
theorem dX12_readNew_12 : decode cX12_readNew 12 = .ok (.ireturn, 1) := by decide +kernel
theorem dX12_readNew_13 : decode cX12_readNew 13 = .ok (.aload_n 0, 1) := by decide +kernel
theorem dX12_readNew_14 : decode cX12_readNew 14 = .ok (.getfield 32, 3) := by decide +kernel
theorem dX12_readNew_17 : decode cX12_readNew 17 = .ok (.iconst 0, 1) := by decide +kernel
theorem dX12_readNew_18 : decode cX12_readNew 18 = .ok (.aload_n 0, 1) := by decide +kernel
theorem dX12_readNew_19 : decode cX12_readNew 19 = .ok (.getfield 16, 3) := by decide +kernel
theorem dX12_readNew_22 : decode cX12_readNew 22 = .ok (.iconst 0, 1) := by decide +kernel
theorem dX12_readNew_23 : decode cX12_readNew 23 = .ok (.iaload, 1) := by decide +kernel
theorem dX12_readNew_24 : decode cX12_readNew 24 = .ok (.aload_n 0, 1) := by decide +kernel
theorem dX12_readNew_25 : decode cX12_readNew 25 = .ok (.getfield 117, 3) := by decide +kernel
theorem dX12_readNew_28 : decode cX12_readNew 28 = .ok (.invokestatic 170, 3) := by decide +kernel
theorem dX12_readNew_31 : decode cX12_readNew 31 = .ok (.iconst (-1), 1) := by decide +kernel
theorem dX12_readNew_32 : decode cX12_readNew 32 = .ok (.if_icmp .ne 26, 3) := by decide +kernel
theorem dX12_readNew_35 : decode cX12_readNew 35 = .ok (.aload_n 0, 1) := by decide +kernel
theorem dX12_readNew_36 : decode cX12_readNew 36 = .ok (.getfield 32, 3) := by decide +kernel
theorem dX12_readNew_39 : decode cX12_readNew 39 = .ok (.bipush 7, 2) := by decide +kernel
theorem dX12_readNew_41 : decode cX12_readNew 41 = .ok (.aload_n 0, 1) := by decide +kernel
theorem dX12_readNew_42 : decode cX12_readNew 42 = .ok (.getfield 16, 3) := by decide +kernel
theorem dX12_readNew_45 : decode cX12_readNew 45 = .ok (.iconst 1, 1) := by decide +kernel
theorem dX12_readNew_46 : decode cX12_readNew 46 = .ok (.iaload, 1) := by decide +kernel
theorem dX12_readNew_47 : decode cX12_readNew 47 = .ok (.aload_n 0, 1) := by decide +kernel
theorem dX12_readNew_48 : decode cX12_readNew 48 = .ok (.getfield 117, 3) := by decide +kernel
theorem dX12_readNew_51 : decode cX12_readNew 51 = .ok (.invokestatic 170, 3) := by decide +kernel
theorem dX12_readNew_54 : decode cX12_readNew 54 = .ok (.iconst (-1), 1) := by decide +kernel
theorem dX12_readNew_55 : decode cX12_readNew 55 = .ok (.if_icmp .eq 9, 3) := by decide +kernel
theorem dX12_readNew_58 : decode cX12_readNew 58 = .ok (.aload_n 0, 1) := by decide +kernel
theorem dX12_readNew_59 : decode cX12_readNew 59 = .ok (.iconst 3, 1) := by decide +kernel
theorem dX12_readNew_60 : decode cX12_readNew 60 = .ok (.invokevirtual 146, 3) := by decide +kernel
theorem dX12_readNew_63 : decode cX12_readNew 63 = .ok (.ireturn, 1) := by decide +kernel
theorem dX12_readNew_64 : decode cX12_readNew 64 = .ok (.aload_n 0, 1) := by decide +kernel
theorem dX12_readNew_65 : decode cX12_readNew 65 = .ok (.getfield 32, 3) := by decide +kernel
theorem dX12_readNew_68 : decode cX12_readNew 68 = .ok (.iload_n 1, 1) := by decide +kernel
theorem dX12_readNew_69 : decode cX12_readNew 69 = .ok (.aload_n 0, 1) := by decide +kernel
theorem dX12_readNew_70 : decode cX12_readNew 70 = .ok (.getfield 117, 3) := by decide +kernel
theorem dX12_readNew_73 : decode cX12_readNew 73 = .ok (.lastore, 1) := by decide +kernel
theorem dX12_readNew_74 : decode cX12_readNew 74 = .ok (.aload_n 0, 1) := by decide +kernel
theorem dX12_readNew_75 : decode cX12_readNew 75 = .ok (.invokevirtual 156, 3) := by decide +kernel
theorem dX12_readNew_78 : decode cX12_readNew 78 = .ok (.iconst 1, 1) := by decide +kernel
theorem dX12_readNew_79 : decode cX12_readNew 79 = .ok (.ireturn, 1) := by decide +kernel
theorem dX12_readNumber_0 : decode cX12_readNumber 0 = .ok (.aload_n 0, 1) := by decide +kernel
theorem dX12_readNumber_1 : decode cX12_readNumber 1 = .ok (.getfield 104, 3) := by decide +kernel
theorem dX12_readNumber_4 : decode cX12_readNumber 4 = .ok (.iconst 3, 1) := by decide +kernel
theorem dX12_readNumber_5 : decode cX12_readNumber 5 = .ok (.if_icmp .eq 9, 3) := by decide +kernel
theorem dX12_readNumber_8 : decode cX12_readNumber 8 = .ok (.aload_n 0, 1) := by decide +kernel
theorem dX12_readNumber_9 : decode cX12_readNumber 9 = .ok (.iconst 1, 1) := by decide +kernel
theorem dX12_readNumber_10 : decode cX12_readNumber 10 = .ok (.invokevirtual 146, 3) := by decide +kernel
theorem dX12_readNumber_13 : decode cX12_readNumber 13 = .ok (.ireturn, 1) := by decide +kernel
theorem dX12_readNumber_14 : decode cX12_readNumber 14 = .ok (.aload_n 0, 1) := by decide +kernel
theorem dX12_readNumber_15 : decode cX12_readNumber 15 = .ok (.getfield 121, 3) := by decide +kernel
theorem dX12_readNumber_18 : decode cX12_readNumber 18 = .ok (.iload_n 1, 1) := by decide +kernel
theorem dX12_readNumber_19 : decode cX12_readNumber 19 = .ok (.iload_n 2, 1) := by decide +kernel
theorem dX12_readNumber_20 : decode cX12_readNumber 20 = .ok (.invokestatic 149, 3) := by decide +kernel
theorem dX12_readNumber_23 : decode cX12_readNumber 23 = .ok (.ifCond .ne 9, 3) := by decide +kernel
theorem dX12_readNumber_26 : decode cX12_readNumber 26 = .ok (.aload_n 0, 1) := by decide +kernel
theorem dX12_readNumber_27 : decode cX12_readNumber 27 = .ok (.iconst 2, 1) := by decide +kernel
theorem dX12_readNumber_28 : decode cX12_readNumber 28 = .ok (.invokevirtual 146, 3) := by decide +kernel
theorem dX12_readNumber_31 : decode cX12_readNumber 31 = .ok (.ireturn, 1) := by decide +kernel
theorem dX12_readNumber_32 : decode cX12_readNumber 32 = .ok (.aload_n 0, 1) := by decide +kernel
theorem dX12_readNumber_33 : decode cX12_readNumber 33 = .ok (.aload_n 0, 1) := by decide +kernel
theorem dX12_readNumber_34 : decode cX12_readNumber 34 = .ok (.getfield 121, 3) := by decide +kernel
theorem dX12_readNumber_37 : decode cX12_readNumber 37 = .ok (.putfield 153, 3) := by decide +kernel
theorem dX12_readNumber_40 : decode cX12_readNumber 40 = .ok (.aload_n 0, 1) := by decide +kernel
theorem dX12_readNumber_41 : decode cX12_readNumber 41 = .ok (.invokevirtual 156, 3) := by decide +kernel
theorem dX12_readNumber_44 : decode cX12_readNumber 44 = .ok (.iconst 1, 1) := by decide +kernel
theorem dX12_readNumber_45 : decode cX12_readNumber 45 = .ok (.ireturn, 1) := by decide +kernel
set_option maxRecDepth 100000 in
set_option maxHeartbeats 8000000 in
theorem c_X12_isWord {l : Launch} {D : va_G} {cy : Nat → ClassId} {L : List Nat} {κ ln : Nat → Nat} {R : Nat → Nat → Option Nat} {I : Nat → Nat → Int32} {J : Nat → Nat → Int64} {ow : Nat → Nat × Nat} (W9 : ∀ a ∈ L, Shp L κ ln R ow a) {x : Nat} (hLx : x ∈ L) (hkx : κ x = 12) (a0 : Int32) (ra0 : Rg 0 27 a0) (hU : Iw L κ R ow I) : CtI l yX12_isWord cX12_isWord 2 (some .boolean) { frames := 2, cells := 0, slots := 0, locals := 48 } D cy L κ ln R I J [.ref x, .int a0] (fun r I2 J2 => I = I2 ∧ J = J2 ∧ Rg 0 1 r ∧ (r = mIsWord a0 (MTf R I J x))) := by
  refine CtI.of (by decide +kernel) (Nat.le_of_ble_eq_true rfl) ?_
  intro p e s m below meth c B K
  have C := B.1
  obtain ⟨b_1, hb_1, hb_1L, hb_1k, hb_1n, hb_1o⟩ := shp_a (W9 x hLx) hkx 1 14 940 rfl (by decide)
  have emqx : ∀ I J, MTf R I J x = MTq I J x b_1 := fun I J => by simp only [MTf, rr_, Option.getD_some, hb_1]
  have wmqx : mqw_ L κ ow x b_1 := ⟨⟨hLx, hb_1L⟩, ⟨(ro_o hkx (by decide)), (ro_a hb_1k (by decide) hb_1o hkx rfl)⟩⟩
  obtain ⟨s_2, hs_2⟩ : ∃ z, MTq I J x b_1 = z := ⟨_, rfl⟩
  refine g_lo (is := [0, 1]) (lo2 := [(0, .ref x), (1, .int a0)]) rfl ?_
  refine g_aload_n C 0 dX12_isWord_0 rfl rfl ?_
  obtain ⟨x_3, hx_3, rx_3⟩ := ex_getw (I := I) (a := x) (j := 7) (lo := 0) (hi := 4) hU.1 hLx (ro_o hkx (by decide)) rfl
  have f_4 : s_2.kind = x_3 := (congrArg MT_.kind hs_2).symm.trans hx_3
  refine g_getI C K hLx hkx f_12_104 (v := x_3) hx_3 dX12_isWord_1 ?_
  refine g_iconst C (v := 2) dX12_isWord_4 (by decide) ?_
  refine g_icmp_ne C (tgt := 24) dX12_isWord_5 (by decide) (fun h_5 => ?_) (fun h_5 => ?_)
  · skip
    have n_6 : ¬ x_3 = 2 := h_5
    refine g_iconst C (v := 0) dX12_isWord_24 (by decide) ?_
    exact g_zret (ty := .boolean) (r := 0) B K rfl (rfl) ⟨rfl, rfl, rg_w rc_0 (by decide) (by decide), (by simp only [mIsWord, emqx, hs_2, hx_3, f_4, h_5, if_true, if_false, mqM_tp, mqM_size, mqM_limit, mqM_to, mqM_frm, mqM_kind, mqM_number, mqM_sign, mqM_word, MT_.w_tp, MT_.w_size, MT_.w_limit, MT_.w_to, MT_.w_frm, MT_.w_kind, MT_.w_number, MT_.w_sign, MT_.w_word])⟩ dX12_isWord_25
  · skip
    have r_7 := (⟨(eq_rg (h_5) rc_2).1, (eq_rg (h_5) rc_2).2⟩ : Rg 2 2 x_3)
    refine g_aload_n C 0 dX12_isWord_8 rfl rfl ?_
    obtain ⟨y_8, hy_8⟩ : ∃ z, J x 12 = z := ⟨_, rfl⟩
    have f_9 : s_2.word = y_8 := (congrArg MT_.word hs_2).symm.trans hy_8
    refine g_getJ C K hLx hkx f_12_117 (v := y_8) hy_8 dX12_isWord_9 ?_
    refine g_iload_n C 1 dX12_isWord_12 rfl rfl ?_
    refine g_callSL C K (c_X12_wordOf W9 a0 (ra0) hU) s_12_136 rfl ⟨rfl, rfl⟩ ⟨Nat.le_of_ble_eq_true rfl, Nat.le_of_ble_eq_true rfl⟩ (Nat.le_of_ble_eq_true rfl) ⟨Nat.le_of_ble_eq_true rfl, Nat.le_of_ble_eq_true rfl⟩ dX12_isWord_13 rfl (st := [.long y_8]) (fun x_10 I_11 J_12 h_13 => ?_)
    obtain ⟨rfl, rfl, fx_10⟩ := h_13
    have c_14 : wof (a0) = x_10 := fx_10.symm
    refine g_lcmpX C dX12_isWord_16 (fun x_15 rx_15 hx_15 => ?_)
    refine g_if_ne C (tgt := 24) dX12_isWord_17 (by decide) (fun h_16 => ?_) (fun h_16 => ?_)
    · skip
      have n_17 : ¬ x_15 = 0 := h_16
      refine g_iconst C (v := 0) dX12_isWord_24 (by decide) ?_
      exact g_zret (ty := .boolean) (r := 0) B K rfl (rfl) ⟨rfl, rfl, rg_w rc_0 (by decide) (by decide), (by simp only [mIsWord, emqx, hs_2, hx_3, f_4, (eq_true h_5), hy_8, f_9, c_14, hx_15, h_16, if_true, if_false, mqM_tp, mqM_size, mqM_limit, mqM_to, mqM_frm, mqM_kind, mqM_number, mqM_sign, mqM_word, MT_.w_tp, MT_.w_size, MT_.w_limit, MT_.w_to, MT_.w_frm, MT_.w_kind, MT_.w_number, MT_.w_sign, MT_.w_word])⟩ dX12_isWord_25
    · skip
      have r_18 := (⟨(eq_rg (h_16) rc_0).1, (eq_rg (h_16) rc_0).2⟩ : Rg 0 0 x_15)
      refine g_iconst C (v := 1) dX12_isWord_20 (by decide) ?_
      refine g_goto C (tgt := 25) dX12_isWord_21 (by decide) ?_
      exact g_zret (ty := .boolean) (r := 1) B K rfl (rfl) ⟨rfl, rfl, rg_w rc_1 (by decide) (by decide), (by simp only [mIsWord, emqx, hs_2, hx_3, f_4, (eq_true h_5), hy_8, f_9, c_14, hx_15, (eq_true h_16), if_true, if_false, mqM_tp, mqM_size, mqM_limit, mqM_to, mqM_frm, mqM_kind, mqM_number, mqM_sign, mqM_word, MT_.w_tp, MT_.w_size, MT_.w_limit, MT_.w_to, MT_.w_frm, MT_.w_kind, MT_.w_number, MT_.w_sign, MT_.w_word])⟩ dX12_isWord_25
set_option maxRecDepth 100000 in
set_option maxHeartbeats 8000000 in
theorem c_X12_put_3_3 {l : Launch} {D : va_G} {cy : Nat → ClassId} {L : List Nat} {κ ln : Nat → Nat} {R : Nat → Nat → Option Nat} {I : Nat → Nat → Int32} {J : Nat → Nat → Int64} {ow : Nat → Nat × Nat} (W9 : ∀ a ∈ L, Shp L κ ln R ow a) {x : Nat} (hLx : x ∈ L) (hkx : κ x = 12) (a0 : Int32) (a1 : Int32) (ra0 : Rg 3 3 a0) (ra1 : Rg 0 1 a1) (hU : Iw L κ R ow I) (hg : ¬ a1 = 0 → Rg 0 9 (I x 13)) : CtI l yX12_put cX12_put 3 (some .boolean) { frames := 0, cells := 0, slots := 0, locals := 0 } D cy L κ ln R I J [.ref x, .int a0, .int a1] (fun r I2 J2 => Iw L κ R ow I2 ∧ Fq L κ ow [83500] I I2 ∧ Fq L κ ow [] J J2 ∧ Rg 0 1 r ∧ ((r, NRf R I2 J2 x) = mPut a0 a1 (NRf R I J x)) ∧ r = a1 ∧ (∀ a, R x 15 = some a → I2 a 0 = I a 0 ∧ I2 a 1 = I a 1)) := by
  refine CtI.of (by decide +kernel) (Nat.le_of_ble_eq_true rfl) ?_
  intro p e s m below meth c B K
  have C := B.1
  have hF : Fq L κ ow [83500] I I := fq_rf
  have hG : Fq L κ ow [] J J := fq_rf
  obtain ⟨b_1, hb_1, hb_1L, hb_1k, hb_1n, hb_1o⟩ := shp_a (W9 x hLx) hkx 15 14 72 rfl (by decide)
  obtain ⟨b_2, hb_2, hb_2L, hb_2k, hb_2n, hb_2o⟩ := shp_a (W9 x hLx) hkx 20 15 13 rfl (by decide)
  have enqx : ∀ I J, NRf R I J x = NRq I J x b_1 b_2 := fun I J => by simp only [NRf, rr_, Option.getD_some, hb_1, hb_2]
  have wnqx : nqw_ L κ ow x b_1 b_2 := ⟨⟨hLx, hb_1L, hb_2L⟩, ⟨(ro_o hkx (by decide)), (ro_a hb_1k (by decide) hb_1o hkx rfl), (ro_a hb_2k (by decide) hb_2o hkx rfl)⟩⟩
  obtain ⟨s_3, hs_3⟩ : ∃ z, NRq I J x b_1 b_2 = z := ⟨_, rfl⟩
  refine g_lo (is := [0, 1, 2]) (lo2 := [(0, .ref x), (1, .int a0), (2, .int a1)]) rfl ?_
  refine g_iload_n C 2 dX12_put_0 rfl rfl ?_
  refine g_if_eq C (tgt := 14) dX12_put_1 (by decide) (fun h_4 => ?_) (fun h_4 => ?_)
  · skip
    have r_5 := (⟨(ra1).1, (eq_rg (h_4) rc_0).2⟩ : Rg 0 0 a1)
    refine g_iload_n C 2 dX12_put_14 rfl rfl ?_
    exact g_zret (ty := .boolean) (r := a1) B K rfl (nar_z (rg_w r_5 (by decide) (by decide))) ⟨hU, hF, hG, rg_w r_5 (by decide) (by decide), (by simp only [mPut, enqx, hs_3, (eq_true h_4), if_true, if_false, nqM_rd, nqM_rn, nqM_taped, nqM_mfault, nqM_mplace, nqM_told, nqM_hl, nqM_hd, NR_.w_rd, NR_.w_rn, NR_.w_taped, NR_.w_mfault, NR_.w_mplace, NR_.w_told, NR_.w_hl, NR_.w_hd]), rfl, (fun a ha => ⟨rfl, rfl⟩)⟩ dX12_put_15
  · skip
    have n_6 : ¬ a1 = 0 := h_4
    have r_7 := ne_lo (lo := 1) n_6 ra1 rc_0 rfl (by decide)
    obtain ⟨x_8, hx_8, rx_8⟩ := ex_getw (I := I) (a := x) (j := 13) (lo := (-2147483648)) (hi := 2147483647) hU.1 hLx (ro_o hkx (by decide)) rfl
    have f_9 : s_3.told = x_8 := (congrArg NR_.told hs_3).symm.trans hx_8
    have r_10 := rg_i rx_8 (eq_rg hx_8.symm (hg n_6)) (lo := 0) (hi := 9) (by decide) (by decide)
    refine g_aload_n C 0 dX12_put_4 rfl rfl ?_
    refine g_getR C K hLx hkx f_12_16 hb_1 dX12_put_5 ?_
    refine g_iload_n C 1 dX12_put_8 rfl rfl ?_
    refine g_aload_n C 0 dX12_put_9 rfl rfl ?_
    refine g_getI C K hLx hkx f_12_153 (v := x_8) hx_8 dX12_put_10 ?_
    refine h_iast C K hb_1L hb_1k (a0.toNatClampNeg) (rfl) (ix_0 ra0 (by decide)) (ix_lt ra0 (by decide) hb_1n (by decide)) dX12_put_13 (fun I_11 hI_11 => ?_)
    have hU_12 := iw_put W9 hU hI_11 (ro_a hb_1k (by decide) hb_1o hkx rfl) (lo := 0) (hi := 9) (bn_835.trans (zq_3 (ix_k (lo := 3) (hi := 3) ra0 (by decide) (by decide) (by decide)))) (r_10) rfl
    have hF_13 := fq_puta hF hI_11 (ro_a hb_1k (by decide) hb_1o hkx rfl) (by decide) (by decide)
    have hs_14 : NRq I_11 J x b_1 b_2 = (NR_.w_rd s_3 (up1 (s_3.rd) (a0.toNatClampNeg) (x_8))) := by rw [hI_11]; exact ((nq_rd wnqx).trans (congrArg (fun z : NR_ => NR_.w_rd z (up1 (z.rd) (a0.toNatClampNeg) (x_8))) hs_3)).trans rfl
    refine g_iload_n C 2 dX12_put_14 rfl rfl ?_
    exact g_zret (ty := .boolean) (r := a1) B K rfl (nar_z (rg_w r_7 (by decide) (by decide))) ⟨hU_12, hF_13, hG, rg_w r_7 (by decide) (by decide), (by simp only [mPut, enqx, hs_14, hs_3, h_4, hx_8, f_9, if_true, if_false, nqM_rd, nqM_rn, nqM_taped, nqM_mfault, nqM_mplace, nqM_told, nqM_hl, nqM_hd, NR_.w_rd, NR_.w_rn, NR_.w_taped, NR_.w_mfault, NR_.w_mplace, NR_.w_told, NR_.w_hl, NR_.w_hd]), rfl, (fun a ha => by rw [hb_1] at ha; cases ha; exact ⟨kp_j hI_11 (ix_ne ra0 (by decide)) rfl, kp_j hI_11 (ix_ne ra0 (by decide)) rfl⟩)⟩ dX12_put_15
set_option maxRecDepth 100000 in
set_option maxHeartbeats 8000000 in
theorem c_X12_put_18_23 {l : Launch} {D : va_G} {cy : Nat → ClassId} {L : List Nat} {κ ln : Nat → Nat} {R : Nat → Nat → Option Nat} {I : Nat → Nat → Int32} {J : Nat → Nat → Int64} {ow : Nat → Nat × Nat} (W9 : ∀ a ∈ L, Shp L κ ln R ow a) {x : Nat} (hLx : x ∈ L) (hkx : κ x = 12) (a0 : Int32) (a1 : Int32) (ra0 : Rg 18 23 a0) (ra1 : Rg 0 1 a1) (hU : Iw L κ R ow I) (hg : ¬ a1 = 0 → Rg 0 99 (I x 13)) : CtI l yX12_put cX12_put 3 (some .boolean) { frames := 0, cells := 0, slots := 0, locals := 0 } D cy L κ ln R I J [.ref x, .int a0, .int a1] (fun r I2 J2 => Iw L κ R ow I2 ∧ Fq L κ ow [83500] I I2 ∧ Fq L κ ow [] J J2 ∧ Rg 0 1 r ∧ ((r, NRf R I2 J2 x) = mPut a0 a1 (NRf R I J x)) ∧ r = a1 ∧ (∀ a, R x 15 = some a → I2 a 0 = I a 0 ∧ I2 a 1 = I a 1)) := by
  refine CtI.of (by decide +kernel) (Nat.le_of_ble_eq_true rfl) ?_
  intro p e s m below meth c B K
  have C := B.1
  have hF : Fq L κ ow [83500] I I := fq_rf
  have hG : Fq L κ ow [] J J := fq_rf
  obtain ⟨b_1, hb_1, hb_1L, hb_1k, hb_1n, hb_1o⟩ := shp_a (W9 x hLx) hkx 15 14 72 rfl (by decide)
  obtain ⟨b_2, hb_2, hb_2L, hb_2k, hb_2n, hb_2o⟩ := shp_a (W9 x hLx) hkx 20 15 13 rfl (by decide)
  have enqx : ∀ I J, NRf R I J x = NRq I J x b_1 b_2 := fun I J => by simp only [NRf, rr_, Option.getD_some, hb_1, hb_2]
  have wnqx : nqw_ L κ ow x b_1 b_2 := ⟨⟨hLx, hb_1L, hb_2L⟩, ⟨(ro_o hkx (by decide)), (ro_a hb_1k (by decide) hb_1o hkx rfl), (ro_a hb_2k (by decide) hb_2o hkx rfl)⟩⟩
  obtain ⟨s_3, hs_3⟩ : ∃ z, NRq I J x b_1 b_2 = z := ⟨_, rfl⟩
  refine g_lo (is := [0, 1, 2]) (lo2 := [(0, .ref x), (1, .int a0), (2, .int a1)]) rfl ?_
  refine g_iload_n C 2 dX12_put_0 rfl rfl ?_
  refine g_if_eq C (tgt := 14) dX12_put_1 (by decide) (fun h_4 => ?_) (fun h_4 => ?_)
  · skip
    have r_5 := (⟨(ra1).1, (eq_rg (h_4) rc_0).2⟩ : Rg 0 0 a1)
    refine g_iload_n C 2 dX12_put_14 rfl rfl ?_
    exact g_zret (ty := .boolean) (r := a1) B K rfl (nar_z (rg_w r_5 (by decide) (by decide))) ⟨hU, hF, hG, rg_w r_5 (by decide) (by decide), (by simp only [mPut, enqx, hs_3, (eq_true h_4), if_true, if_false, nqM_rd, nqM_rn, nqM_taped, nqM_mfault, nqM_mplace, nqM_told, nqM_hl, nqM_hd, NR_.w_rd, NR_.w_rn, NR_.w_taped, NR_.w_mfault, NR_.w_mplace, NR_.w_told, NR_.w_hl, NR_.w_hd]), rfl, (fun a ha => ⟨rfl, rfl⟩)⟩ dX12_put_15
  · skip
    have n_6 : ¬ a1 = 0 := h_4
    have r_7 := ne_lo (lo := 1) n_6 ra1 rc_0 rfl (by decide)
    obtain ⟨x_8, hx_8, rx_8⟩ := ex_getw (I := I) (a := x) (j := 13) (lo := (-2147483648)) (hi := 2147483647) hU.1 hLx (ro_o hkx (by decide)) rfl
    have f_9 : s_3.told = x_8 := (congrArg NR_.told hs_3).symm.trans hx_8
    have r_10 := rg_i rx_8 (eq_rg hx_8.symm (hg n_6)) (lo := 0) (hi := 99) (by decide) (by decide)
    refine g_aload_n C 0 dX12_put_4 rfl rfl ?_
    refine g_getR C K hLx hkx f_12_16 hb_1 dX12_put_5 ?_
    refine g_iload_n C 1 dX12_put_8 rfl rfl ?_
    refine g_aload_n C 0 dX12_put_9 rfl rfl ?_
    refine g_getI C K hLx hkx f_12_153 (v := x_8) hx_8 dX12_put_10 ?_
    refine h_iast C K hb_1L hb_1k (a0.toNatClampNeg) (rfl) (ix_0 ra0 (by decide)) (ix_lt ra0 (by decide) hb_1n (by decide)) dX12_put_13 (fun I_11 hI_11 => ?_)
    have hU_12 := iw_put W9 hU hI_11 (ro_a hb_1k (by decide) hb_1o hkx rfl) (lo := 0) (hi := 99) (bn_835.trans (zq_18 (ix_k (lo := 18) (hi := 23) ra0 (by decide) (by decide) (by decide)))) (r_10) rfl
    have hF_13 := fq_puta hF hI_11 (ro_a hb_1k (by decide) hb_1o hkx rfl) (by decide) (by decide)
    have hs_14 : NRq I_11 J x b_1 b_2 = (NR_.w_rd s_3 (up1 (s_3.rd) (a0.toNatClampNeg) (x_8))) := by rw [hI_11]; exact ((nq_rd wnqx).trans (congrArg (fun z : NR_ => NR_.w_rd z (up1 (z.rd) (a0.toNatClampNeg) (x_8))) hs_3)).trans rfl
    refine g_iload_n C 2 dX12_put_14 rfl rfl ?_
    exact g_zret (ty := .boolean) (r := a1) B K rfl (nar_z (rg_w r_7 (by decide) (by decide))) ⟨hU_12, hF_13, hG, rg_w r_7 (by decide) (by decide), (by simp only [mPut, enqx, hs_14, hs_3, h_4, hx_8, f_9, if_true, if_false, nqM_rd, nqM_rn, nqM_taped, nqM_mfault, nqM_mplace, nqM_told, nqM_hl, nqM_hd, NR_.w_rd, NR_.w_rn, NR_.w_taped, NR_.w_mfault, NR_.w_mplace, NR_.w_told, NR_.w_hl, NR_.w_hd]), rfl, (fun a ha => by rw [hb_1] at ha; cases ha; exact ⟨kp_j hI_11 (ix_ne ra0 (by decide)) rfl, kp_j hI_11 (ix_ne ra0 (by decide)) rfl⟩)⟩ dX12_put_15
set_option maxRecDepth 100000 in
set_option maxHeartbeats 8000000 in
theorem c_X12_put_24_29 {l : Launch} {D : va_G} {cy : Nat → ClassId} {L : List Nat} {κ ln : Nat → Nat} {R : Nat → Nat → Option Nat} {I : Nat → Nat → Int32} {J : Nat → Nat → Int64} {ow : Nat → Nat × Nat} (W9 : ∀ a ∈ L, Shp L κ ln R ow a) {x : Nat} (hLx : x ∈ L) (hkx : κ x = 12) (a0 : Int32) (a1 : Int32) (ra0 : Rg 24 29 a0) (ra1 : Rg 0 1 a1) (hU : Iw L κ R ow I) (hg : ¬ a1 = 0 → Rg 0 9 (I x 13)) : CtI l yX12_put cX12_put 3 (some .boolean) { frames := 0, cells := 0, slots := 0, locals := 0 } D cy L κ ln R I J [.ref x, .int a0, .int a1] (fun r I2 J2 => Iw L κ R ow I2 ∧ Fq L κ ow [83500] I I2 ∧ Fq L κ ow [] J J2 ∧ Rg 0 1 r ∧ ((r, NRf R I2 J2 x) = mPut a0 a1 (NRf R I J x)) ∧ r = a1 ∧ (∀ a, R x 15 = some a → I2 a 0 = I a 0 ∧ I2 a 1 = I a 1)) := by
  refine CtI.of (by decide +kernel) (Nat.le_of_ble_eq_true rfl) ?_
  intro p e s m below meth c B K
  have C := B.1
  have hF : Fq L κ ow [83500] I I := fq_rf
  have hG : Fq L κ ow [] J J := fq_rf
  obtain ⟨b_1, hb_1, hb_1L, hb_1k, hb_1n, hb_1o⟩ := shp_a (W9 x hLx) hkx 15 14 72 rfl (by decide)
  obtain ⟨b_2, hb_2, hb_2L, hb_2k, hb_2n, hb_2o⟩ := shp_a (W9 x hLx) hkx 20 15 13 rfl (by decide)
  have enqx : ∀ I J, NRf R I J x = NRq I J x b_1 b_2 := fun I J => by simp only [NRf, rr_, Option.getD_some, hb_1, hb_2]
  have wnqx : nqw_ L κ ow x b_1 b_2 := ⟨⟨hLx, hb_1L, hb_2L⟩, ⟨(ro_o hkx (by decide)), (ro_a hb_1k (by decide) hb_1o hkx rfl), (ro_a hb_2k (by decide) hb_2o hkx rfl)⟩⟩
  obtain ⟨s_3, hs_3⟩ : ∃ z, NRq I J x b_1 b_2 = z := ⟨_, rfl⟩
  refine g_lo (is := [0, 1, 2]) (lo2 := [(0, .ref x), (1, .int a0), (2, .int a1)]) rfl ?_
  refine g_iload_n C 2 dX12_put_0 rfl rfl ?_
  refine g_if_eq C (tgt := 14) dX12_put_1 (by decide) (fun h_4 => ?_) (fun h_4 => ?_)
  · skip
    have r_5 := (⟨(ra1).1, (eq_rg (h_4) rc_0).2⟩ : Rg 0 0 a1)
    refine g_iload_n C 2 dX12_put_14 rfl rfl ?_
    exact g_zret (ty := .boolean) (r := a1) B K rfl (nar_z (rg_w r_5 (by decide) (by decide))) ⟨hU, hF, hG, rg_w r_5 (by decide) (by decide), (by simp only [mPut, enqx, hs_3, (eq_true h_4), if_true, if_false, nqM_rd, nqM_rn, nqM_taped, nqM_mfault, nqM_mplace, nqM_told, nqM_hl, nqM_hd, NR_.w_rd, NR_.w_rn, NR_.w_taped, NR_.w_mfault, NR_.w_mplace, NR_.w_told, NR_.w_hl, NR_.w_hd]), rfl, (fun a ha => ⟨rfl, rfl⟩)⟩ dX12_put_15
  · skip
    have n_6 : ¬ a1 = 0 := h_4
    have r_7 := ne_lo (lo := 1) n_6 ra1 rc_0 rfl (by decide)
    obtain ⟨x_8, hx_8, rx_8⟩ := ex_getw (I := I) (a := x) (j := 13) (lo := (-2147483648)) (hi := 2147483647) hU.1 hLx (ro_o hkx (by decide)) rfl
    have f_9 : s_3.told = x_8 := (congrArg NR_.told hs_3).symm.trans hx_8
    have r_10 := rg_i rx_8 (eq_rg hx_8.symm (hg n_6)) (lo := 0) (hi := 9) (by decide) (by decide)
    refine g_aload_n C 0 dX12_put_4 rfl rfl ?_
    refine g_getR C K hLx hkx f_12_16 hb_1 dX12_put_5 ?_
    refine g_iload_n C 1 dX12_put_8 rfl rfl ?_
    refine g_aload_n C 0 dX12_put_9 rfl rfl ?_
    refine g_getI C K hLx hkx f_12_153 (v := x_8) hx_8 dX12_put_10 ?_
    refine h_iast C K hb_1L hb_1k (a0.toNatClampNeg) (rfl) (ix_0 ra0 (by decide)) (ix_lt ra0 (by decide) hb_1n (by decide)) dX12_put_13 (fun I_11 hI_11 => ?_)
    have hU_12 := iw_put W9 hU hI_11 (ro_a hb_1k (by decide) hb_1o hkx rfl) (lo := 0) (hi := 9) (bn_835.trans (zq_24 (ix_k (lo := 24) (hi := 29) ra0 (by decide) (by decide) (by decide)))) (r_10) rfl
    have hF_13 := fq_puta hF hI_11 (ro_a hb_1k (by decide) hb_1o hkx rfl) (by decide) (by decide)
    have hs_14 : NRq I_11 J x b_1 b_2 = (NR_.w_rd s_3 (up1 (s_3.rd) (a0.toNatClampNeg) (x_8))) := by rw [hI_11]; exact ((nq_rd wnqx).trans (congrArg (fun z : NR_ => NR_.w_rd z (up1 (z.rd) (a0.toNatClampNeg) (x_8))) hs_3)).trans rfl
    refine g_iload_n C 2 dX12_put_14 rfl rfl ?_
    exact g_zret (ty := .boolean) (r := a1) B K rfl (nar_z (rg_w r_7 (by decide) (by decide))) ⟨hU_12, hF_13, hG, rg_w r_7 (by decide) (by decide), (by simp only [mPut, enqx, hs_14, hs_3, h_4, hx_8, f_9, if_true, if_false, nqM_rd, nqM_rn, nqM_taped, nqM_mfault, nqM_mplace, nqM_told, nqM_hl, nqM_hd, NR_.w_rd, NR_.w_rn, NR_.w_taped, NR_.w_mfault, NR_.w_mplace, NR_.w_told, NR_.w_hl, NR_.w_hd]), rfl, (fun a ha => by rw [hb_1] at ha; cases ha; exact ⟨kp_j hI_11 (ix_ne ra0 (by decide)) rfl, kp_j hI_11 (ix_ne ra0 (by decide)) rfl⟩)⟩ dX12_put_15
set_option maxRecDepth 100000 in
set_option maxHeartbeats 8000000 in
theorem c_X12_readFirst_1_6 {l : Launch} {D : va_G} {cy : Nat → ClassId} {L : List Nat} {κ ln : Nat → Nat} {R : Nat → Nat → Option Nat} {I : Nat → Nat → Int32} {J : Nat → Nat → Int64} {ow : Nat → Nat × Nat} (W9 : ∀ a ∈ L, Shp L κ ln R ow a) {x : Nat} (hLx : x ∈ L) (hkx : κ x = 12) (hU : Iw L κ R ow I) : CtI l yX12_readFirst cX12_readFirst 3 (some .boolean) { frames := 2, cells := 0, slots := 0, locals := 45 } D cy L κ ln R I J [.ref x, .int 1, .int 6] (fun r I2 J2 => Iw L κ R ow I2 ∧ Fq L κ ow [1205, 1206, 1207, 1208, 1209, 1210, 1211] I I2 ∧ Fq L κ ow [1212] J J2 ∧ Rg 0 1 r ∧ ((r, MTf R I2 J2 x, NRf R I2 J2 x) = mReadFirst (1) (6) (MTf R I J x) (NRf R I J x)) ∧ (Pg_ x I I2 ∧ (¬ r = 0 → Ps_ x I I2)) ∧ (¬ r = 0 → ∀ a, R x 15 = some a → Rg 0 5 (I2 a 1))) := by
  refine CtI.of (by decide +kernel) (Nat.le_of_ble_eq_true rfl) ?_
  intro p e s m below meth c B K
  have C := B.1
  have hF : Fq L κ ow [1205, 1206, 1207, 1208, 1209, 1210, 1211] I I := fq_rf
  have hG : Fq L κ ow [1212] J J := fq_rf
  obtain ⟨b_1, hb_1, hb_1L, hb_1k, hb_1n, hb_1o⟩ := shp_a (W9 x hLx) hkx 15 14 72 rfl (by decide)
  obtain ⟨b_2, hb_2, hb_2L, hb_2k, hb_2n, hb_2o⟩ := shp_a (W9 x hLx) hkx 1 14 940 rfl (by decide)
  have emqx : ∀ I J, MTf R I J x = MTq I J x b_2 := fun I J => by simp only [MTf, rr_, Option.getD_some, hb_2]
  have wmqx : mqw_ L κ ow x b_2 := ⟨⟨hLx, hb_2L⟩, ⟨(ro_o hkx (by decide)), (ro_a hb_2k (by decide) hb_2o hkx rfl)⟩⟩
  obtain ⟨s_3, hs_3⟩ : ∃ z, MTq I J x b_2 = z := ⟨_, rfl⟩
  obtain ⟨b_4, hb_4, hb_4L, hb_4k, hb_4n, hb_4o⟩ := shp_a (W9 x hLx) hkx 20 15 13 rfl (by decide)
  have enqx : ∀ I J, NRf R I J x = NRq I J x b_1 b_4 := fun I J => by simp only [NRf, rr_, Option.getD_some, hb_1, hb_4]
  have wnqx : nqw_ L κ ow x b_1 b_4 := ⟨⟨hLx, hb_1L, hb_4L⟩, ⟨(ro_o hkx (by decide)), (ro_a hb_1k (by decide) hb_1o hkx rfl), (ro_a hb_4k (by decide) hb_4o hkx rfl)⟩⟩
  obtain ⟨s_5, hs_5⟩ : ∃ z, NRq I J x b_1 b_4 = z := ⟨_, rfl⟩
  refine g_lo (is := [0, 1, 2]) (lo2 := [(0, .ref x), (1, .int 1), (2, .int 6)]) rfl ?_
  refine g_aload_n C 0 dX12_readFirst_0 rfl rfl ?_
  refine g_getR C K hLx hkx f_12_16 hb_1 dX12_readFirst_1 ?_
  refine g_iload_n C 1 dX12_readFirst_4 rfl rfl ?_
  obtain ⟨x_6, hx_6, rx_6⟩ := ex_getw (I := I) (a := b_1) (j := 1) (lo := 0) (hi := 6) hU.1 hb_1L (ro_a hb_1k (by decide) hb_1o hkx rfl) (by decide)
  refine h_iald C K hb_1L hb_1k (v := x_6) (1) (by decide) (by decide) (by rw [hb_1n]; decide) hx_6 dX12_readFirst_5 ?_
  have f_7 : s_5.rd (1) = x_6 := (congrFun (congrArg NR_.rd hs_5) _).symm.trans hx_6
  refine g_iload_n C 2 dX12_readFirst_6 rfl rfl ?_
  refine g_icmp_ne C (tgt := 16) dX12_readFirst_7 (by decide) (fun h_8 => ?_) (fun h_8 => ?_)
  · skip
    have n_9 : ¬ x_6 = 6 := h_8
    have r_10 := ne_hi (hi := 5) n_9 rx_6 rc_6 rfl (by decide)
    refine g_aload_n C 0 dX12_readFirst_16 rfl rfl ?_
    refine g_callVV C K (c_X12_go W9 hLx hkx   hU) hLx hkx (by decide) rfl v_12_156 rfl ⟨rfl, rfl⟩ ⟨Nat.le_of_ble_eq_true rfl, Nat.le_of_ble_eq_true rfl⟩ (Nat.le_of_ble_eq_true rfl) ⟨Nat.le_of_ble_eq_true rfl, Nat.le_of_ble_eq_true rfl⟩ dX12_readFirst_17 rfl (st := []) (fun I_12 J_13 h_14 => ?_)
    obtain ⟨hUI_12, hFI_12, hGJ_13, fx_11, ex_11⟩ := h_14
    have hF_15 := fq_tr hF hFI_12 (by decide)
    have hG_16 := fq_tr hG hGJ_13 (by decide)
    obtain ⟨s_18, hs_18⟩ : ∃ z, MTq I_12 J_13 x b_2 = z := ⟨_, rfl⟩
    have c_17 : mGo (s_3) = s_18 := by have q := fx_11; simp only [emqx, hs_3, hs_18] at q; exact q.symm
    have hs_19 : NRq I_12 J_13 x b_1 b_4 = s_5 := (nq_fq wnqx hFI_12 hGJ_13 (by decide) (by decide)).trans hs_5
    refine g_iconst C (v := 1) dX12_readFirst_20 (by decide) ?_
    exact g_zret (ty := .boolean) (r := 1) B K rfl (rfl) ⟨hUI_12, hF_15, hG_16, rg_w rc_1 (by decide) (by decide), (by simp only [mReadFirst, (by decide : Int32.toNatClampNeg 0 = 0), (by decide : Int32.toNatClampNeg 1 = 1), emqx, hs_18, hs_3, enqx, hs_19, hs_5, hx_6, f_7, h_8, c_17, if_true, if_false, mqM_tp, mqM_size, mqM_limit, mqM_to, mqM_frm, mqM_kind, mqM_number, mqM_sign, mqM_word, MT_.w_tp, MT_.w_size, MT_.w_limit, MT_.w_to, MT_.w_frm, MT_.w_kind, MT_.w_number, MT_.w_sign, MT_.w_word, nqM_rd, nqM_rn, nqM_taped, nqM_mfault, nqM_mplace, nqM_told, nqM_hl, nqM_hd, NR_.w_rd, NR_.w_rn, NR_.w_taped, NR_.w_mfault, NR_.w_mplace, NR_.w_told, NR_.w_hl, NR_.w_hd]), ⟨(pg_s (ps_t2 pg_rf ex_11)), fun _ => (ps_t2 pg_rf ex_11)⟩, (fun _ => fun a ha => by rw [hb_1] at ha; cases ha; exact eq_rg (fq_ar hFI_12 hb_1L (ro_a hb_1k (by decide) hb_1o hkx rfl) (by decide) (by decide) hx_6) (r_10))⟩ dX12_readFirst_21
  · skip
    have r_20 := (⟨(eq_rg (h_8) rc_6).1, (rx_6).2⟩ : Rg 6 6 x_6)
    refine g_aload_n C 0 dX12_readFirst_10 rfl rfl ?_
    refine g_iconst C (v := 4) dX12_readFirst_11 (by decide) ?_
    refine g_callVI C K (c_X12_bad W9 hLx hkx 4 (rg_w rc_4 (by decide) (by decide)) hU) hLx hkx (by decide) rfl v_12_146 rfl ⟨rfl, rfl⟩ ⟨Nat.le_of_ble_eq_true rfl, Nat.le_of_ble_eq_true rfl⟩ (Nat.le_of_ble_eq_true rfl) ⟨Nat.le_of_ble_eq_true rfl, Nat.le_of_ble_eq_true rfl⟩ dX12_readFirst_12 rfl (st := []) (fun x_21 I_22 J_23 h_24 => ?_)
    obtain ⟨hUI_22, hFI_22, hGJ_23, rx_21, fx_21⟩ := h_24
    have hF_25 := fq_tr hF hFI_22 (by decide)
    have hG_26 := fq_tr hG hGJ_23 (by decide)
    obtain ⟨s_28, hs_28⟩ : ∃ z, MTq I_22 J_23 x b_2 = z := ⟨_, rfl⟩
    obtain ⟨s_29, hs_29⟩ : ∃ z, NRq I_22 J_23 x b_1 b_4 = z := ⟨_, rfl⟩
    have c_27 : mBad (4) (s_3) (s_5) = (x_21, s_28, s_29) := by have q := fx_21; simp only [emqx, enqx, hs_3, hs_5, hs_28, hs_29] at q; exact q.symm
    exact g_zret (ty := .boolean) (r := x_21) B K rfl (nar_z (rg_w rx_21 (by decide) (by decide))) ⟨hUI_22, hF_25, hG_26, rg_w rx_21 (by decide) (by decide), (by simp only [mReadFirst, (by decide : Int32.toNatClampNeg 0 = 0), (by decide : Int32.toNatClampNeg 1 = 1), emqx, hs_28, hs_3, enqx, hs_29, hs_5, hx_6, f_7, (eq_true h_8), c_27, if_true, if_false, mqM_tp, mqM_size, mqM_limit, mqM_to, mqM_frm, mqM_kind, mqM_number, mqM_sign, mqM_word, MT_.w_tp, MT_.w_size, MT_.w_limit, MT_.w_to, MT_.w_frm, MT_.w_kind, MT_.w_number, MT_.w_sign, MT_.w_word, nqM_rd, nqM_rn, nqM_taped, nqM_mfault, nqM_mplace, nqM_told, nqM_hl, nqM_hd, NR_.w_rd, NR_.w_rn, NR_.w_taped, NR_.w_mfault, NR_.w_mplace, NR_.w_told, NR_.w_hl, NR_.w_hd]), ⟨(pg_fq pg_rf hFI_22 hLx hkx (by decide) (by decide)), fun q => ne_no q rx_21 rc_0⟩, (fun q => ne_no q rx_21 rc_0)⟩ dX12_readFirst_15
set_option maxRecDepth 100000 in
set_option maxHeartbeats 8000000 in
theorem c_X12_findIn_0 {l : Launch} {D : va_G} {cy : Nat → ClassId} {L : List Nat} {κ ln : Nat → Nat} {R : Nat → Nat → Option Nat} {I : Nat → Nat → Int32} {J : Nat → Nat → Int64} {ow : Nat → Nat × Nat} (W9 : ∀ a ∈ L, Shp L κ ln R ow a) {a0 : Nat} (hLa0 : a0 ∈ L) (hka0 : κ a0 = 15) (hna0 : ln a0 = 13) (a2 : Int32) (a3 : Int64) (ra2 : Rg 0 7 a2) (hU : Iw L κ R ow I) : CtI l yX12_findIn cX12_findIn 6 (some .int) { frames := 0, cells := 0, slots := 0, locals := 0 } D cy L κ ln R I J [.ref a0, .int 0, .int a2, .long a3] (fun r I2 J2 => I = I2 ∧ J = J2 ∧ Rg (-1) 6 r ∧ (r = mfnd (J a0) 0 a2 a3 0) ∧ ((r = (-1) → ∀ k : Nat, (k : Int) < a2.toInt → ¬ J a0 (0 + k) = a3) ∧ (¬ r = (-1) → ∃ k : Nat, (k : Int) < a2.toInt ∧ J a0 (0 + k) = a3))) := by
  refine CtI.of (by decide +kernel) (Nat.le_of_ble_eq_true rfl) ?_
  intro p e s m below meth c B K
  have C := B.1
  refine g_lo (is := [0, 1, 2, 3]) (lo2 := [(0, .ref a0), (1, .int 0), (2, .int a2), (3, .long a3)]) rfl ?_
  have l_3 : ∀ (n_3 : Nat) (v_1 : Int32) (rv_1 : Rg 0 7 v_1) (hq_2 : mfnd (J a0) 0 a2 a3 v_1 = mfnd (J a0) 0 a2 a3 0) (hj_3 : ∀ j : Nat, (j : Int) < v_1.toInt → ¬ J a0 (0 + j) = a3) (hm_4 : 7 < (v_1 : Int32).toInt + (n_3 : Int)), WG p l e { frames := 0, cells := 0, slots := 0, locals := 0 } s m ([.ref a0, .int 0, .int a2, .long a3] : List Value).toArray below meth c 6 0 0 (MQ below (Qi_ D cy L κ ln R (fun r I2 J2 => I = I2 ∧ J = J2 ∧ Rg (-1) 6 r ∧ (r = mfnd (J a0) 0 a2 a3 0) ∧ ((r = (-1) → ∀ k : Nat, (k : Int) < a2.toInt → ¬ J a0 (0 + k) = a3) ∧ (¬ r = (-1) → ∃ k : Nat, (k : Int) < a2.toInt ∧ J a0 (0 + k) = a3)))) ([.ref a0, .int 0, .int a2, .long a3] : List Value).toArray s 0 0 (Al_ L)) D cy (Al_ L) s.heap L κ ln R I J 3 [(0, .ref a0), (1, .int 0), (2, .int a2), (3, .long a3), (5, .int v_1)] [] := by
    intro n_3
    induction n_3 with
    | zero =>
      intro v_1 rv_1 hq_2 hj_3 hm_4
      exact ms_0 rv_1 hm_4
    | succ n_3 ih_3 =>
      intro v_1 rv_1 hq_2 hj_3 hm_4
      have hQ_5 := hq_2.symm
      have u_6 := mfnd_eq (nm := J a0) (b := 0) (cnt := a2) (w := a3) (i := v_1) (rg_w rv_1 (by decide) (by decide))
      refine g_iload C 4 dX12_findIn_3 rfl ?_
      refine g_iload_n C 2 dX12_findIn_5 rfl rfl ?_
      refine g_icmp_ge C (tgt := 29) dX12_findIn_6 (by decide) (fun h_7 => ?_) (fun h_7 => ?_)
      · skip
        refine g_iconst C (v := (-1)) dX12_findIn_29 (by decide) ?_
        exact g_zret (ty := .int) (r := (-1)) B K rfl (rfl) ⟨rfl, rfl, rg_w rc_m1 (by decide) (by decide), (by (try simp only [h_7, if_true, if_false] at hQ_5); (try simp only [h_7, if_true, if_false] at u_6); simp only [hQ_5, u_6, h_7, if_true, if_false]), ⟨fun _ j hj => hj_3 j (Int.lt_of_lt_of_le hj (Int32.le_iff_toInt_le.mp (h_7))), fun q => absurd rfl q⟩⟩ dX12_findIn_30
      · skip
        have r_8 := lt_l (hi := 6) (nle h_7) rv_1 ra2 (by decide)
        have r_9 := lt_r (lo := 1) (nle h_7) rv_1 ra2 (by decide)
        refine g_aload_n C 0 dX12_findIn_9 rfl rfl ?_
        refine g_iload_n C 1 dX12_findIn_10 rfl rfl ?_
        refine g_iload C 4 dX12_findIn_11 rfl ?_
        obtain ⟨x_10, hx_10, rx_10, tx_10⟩ := ex_add 0 6 rc_0 r_8 (by decide) (by decide) (by decide) (by decide)
        refine g_iadd C (v := x_10) dX12_findIn_13 hx_10 ?_
        obtain ⟨y_11, hy_11⟩ : ∃ z, J a0 (x_10.toNatClampNeg) = z := ⟨_, rfl⟩
        refine h_lald C K hLa0 hka0 (v := y_11) (x_10.toNatClampNeg) (rfl) (ix_0 rx_10 (by decide)) (ix_lt rx_10 (by decide) hna0 (by decide)) hy_11 dX12_findIn_14 ?_
        refine g_lload_n C 3 dX12_findIn_15 rfl rfl ?_
        refine g_lcmpX C dX12_findIn_16 (fun x_12 rx_12 hx_12 => ?_)
        have qx_12 := lx_e hx_12
        refine g_if_ne C (tgt := 23) dX12_findIn_17 (by decide) (fun h_13 => ?_) (fun h_13 => ?_)
        · skip
          have n_14 : ¬ x_12 = 0 := h_13
          obtain ⟨x_15, hx_15, rx_15, tx_15⟩ := ex_add (y := 1) 1 7 r_8 rc_1 (by decide) (by decide) (by decide) (by decide)
          refine g_iinc C dX12_findIn_23 (k := 4) (v := x_15) rfl hx_15 (by decide) (lo2 := [(5, .int x_15), (0, .ref a0), (1, .int 0), (2, .int a2), (3, .long a3)]) rfl ?_
          refine g_goto C (tgt := 3) dX12_findIn_26 (by decide) ?_
          refine g_lo (is := [1, 2, 3, 4, 0]) (lo2 := [(0, .ref a0), (1, .int 0), (2, .int a2), (3, .long a3), (5, .int x_15)]) rfl ?_
          exact ih_3 x_15 (rg_w rx_15 (by decide) (by decide)) (by (try simp only [h_7, (nle h_7), hx_10, hy_11, hx_12, h_13, hx_15, if_true, if_false] at hQ_5); (try simp only [h_7, (nle h_7), hx_10, hy_11, hx_12, h_13, hx_15, if_true, if_false] at u_6); simp only [hQ_5, u_6, h_7, (nle h_7), hx_10, hy_11, hx_12, h_13, hx_15, if_true, if_false]) (fun j hj => by by_cases q : (j : Int) < v_1.toInt; exact hj_3 j q; have q1 := ix_n r_8 (by decide); have q2 := (ti_k tx_15 rc_1); rw [show 0 + j = x_10.toNatClampNeg from by have q3 := (show x_10.toNatClampNeg = 0 + v_1.toNatClampNeg from by rw [nx_a tx_10 rc_0 r_8 (by decide)]; simp only [show (0 : Int32).toNatClampNeg = 0 from rfl] <;> omega); omega]; exact (fun q => n_14 (qx_12.mpr (Eq.trans hy_11.symm q)))) (ms_1 hm_4 (ti_k tx_15 rc_1) (by decide))
        · skip
          have r_16 := (⟨(eq_rg (h_13) rc_0).1, (eq_rg (h_13) rc_0).2⟩ : Rg 0 0 x_12)
          refine g_iload C 4 dX12_findIn_20 rfl ?_
          exact g_zret (ty := .int) (r := v_1) B K rfl (rfl) ⟨rfl, rfl, rg_w r_8 (by decide) (by decide), (by (try simp only [h_7, (nle h_7), hx_10, hy_11, hx_12, (eq_true h_13), if_true, if_false] at hQ_5); (try simp only [h_7, (nle h_7), hx_10, hy_11, hx_12, (eq_true h_13), if_true, if_false] at u_6); simp only [hQ_5, u_6, h_7, (nle h_7), hx_10, hy_11, hx_12, (eq_true h_13), if_true, if_false]), ⟨fun q => absurd q (rg_nek r_8 rc_m1 (by decide)), fun _ => ⟨v_1.toNatClampNeg, by rw [ix_n r_8 (by decide)]; exact Int32.lt_iff_toInt_lt.mp (nle h_7), by rw [← (show x_10.toNatClampNeg = 0 + v_1.toNatClampNeg from by rw [nx_a tx_10 rc_0 r_8 (by decide)]; simp only [show (0 : Int32).toNatClampNeg = 0 from rfl] <;> omega), hy_11]; exact qx_12.mp (rg_1k r_16 rc_0)⟩⟩⟩ dX12_findIn_22
  refine g_iconst C (v := 0) dX12_findIn_0 (by decide) ?_
  refine g_istore C dX12_findIn_1 (by decide) (lo2 := [(5, .int 0), (0, .ref a0), (1, .int 0), (2, .int a2), (3, .long a3)]) rfl ?_
  refine g_lo (is := [1, 2, 3, 4, 0]) (lo2 := [(0, .ref a0), (1, .int 0), (2, .int a2), (3, .long a3), (5, .int 0)]) rfl ?_
  exact l_3 8 0 (rg_w rc_0 (by decide) (by decide)) (by simp only [if_true, if_false]) (fun j hj => by rw [show (0 : Int32).toInt = 0 from by decide] at hj; omega) (ms_s (a := 0) (b := 7) (N := 8) (rg_w rc_0 (by decide) (by decide)) (by decide))
set_option maxRecDepth 100000 in
set_option maxHeartbeats 8000000 in
theorem c_X12_findIn_7 {l : Launch} {D : va_G} {cy : Nat → ClassId} {L : List Nat} {κ ln : Nat → Nat} {R : Nat → Nat → Option Nat} {I : Nat → Nat → Int32} {J : Nat → Nat → Int64} {ow : Nat → Nat × Nat} (W9 : ∀ a ∈ L, Shp L κ ln R ow a) {a0 : Nat} (hLa0 : a0 ∈ L) (hka0 : κ a0 = 15) (hna0 : ln a0 = 13) (a2 : Int32) (a3 : Int64) (ra2 : Rg 0 6 a2) (hU : Iw L κ R ow I) : CtI l yX12_findIn cX12_findIn 6 (some .int) { frames := 0, cells := 0, slots := 0, locals := 0 } D cy L κ ln R I J [.ref a0, .int 7, .int a2, .long a3] (fun r I2 J2 => I = I2 ∧ J = J2 ∧ Rg (-1) 5 r ∧ (r = mfnd (J a0) 7 a2 a3 0) ∧ ((r = (-1) → ∀ k : Nat, (k : Int) < a2.toInt → ¬ J a0 (7 + k) = a3) ∧ (¬ r = (-1) → ∃ k : Nat, (k : Int) < a2.toInt ∧ J a0 (7 + k) = a3))) := by
  refine CtI.of (by decide +kernel) (Nat.le_of_ble_eq_true rfl) ?_
  intro p e s m below meth c B K
  have C := B.1
  refine g_lo (is := [0, 1, 2, 3]) (lo2 := [(0, .ref a0), (1, .int 7), (2, .int a2), (3, .long a3)]) rfl ?_
  have l_3 : ∀ (n_3 : Nat) (v_1 : Int32) (rv_1 : Rg 0 6 v_1) (hq_2 : mfnd (J a0) 7 a2 a3 v_1 = mfnd (J a0) 7 a2 a3 0) (hj_3 : ∀ j : Nat, (j : Int) < v_1.toInt → ¬ J a0 (7 + j) = a3) (hm_4 : 6 < (v_1 : Int32).toInt + (n_3 : Int)), WG p l e { frames := 0, cells := 0, slots := 0, locals := 0 } s m ([.ref a0, .int 7, .int a2, .long a3] : List Value).toArray below meth c 6 0 0 (MQ below (Qi_ D cy L κ ln R (fun r I2 J2 => I = I2 ∧ J = J2 ∧ Rg (-1) 5 r ∧ (r = mfnd (J a0) 7 a2 a3 0) ∧ ((r = (-1) → ∀ k : Nat, (k : Int) < a2.toInt → ¬ J a0 (7 + k) = a3) ∧ (¬ r = (-1) → ∃ k : Nat, (k : Int) < a2.toInt ∧ J a0 (7 + k) = a3)))) ([.ref a0, .int 7, .int a2, .long a3] : List Value).toArray s 0 0 (Al_ L)) D cy (Al_ L) s.heap L κ ln R I J 3 [(0, .ref a0), (1, .int 7), (2, .int a2), (3, .long a3), (5, .int v_1)] [] := by
    intro n_3
    induction n_3 with
    | zero =>
      intro v_1 rv_1 hq_2 hj_3 hm_4
      exact ms_0 rv_1 hm_4
    | succ n_3 ih_3 =>
      intro v_1 rv_1 hq_2 hj_3 hm_4
      have hQ_5 := hq_2.symm
      have u_6 := mfnd_eq (nm := J a0) (b := 7) (cnt := a2) (w := a3) (i := v_1) (rg_w rv_1 (by decide) (by decide))
      refine g_iload C 4 dX12_findIn_3 rfl ?_
      refine g_iload_n C 2 dX12_findIn_5 rfl rfl ?_
      refine g_icmp_ge C (tgt := 29) dX12_findIn_6 (by decide) (fun h_7 => ?_) (fun h_7 => ?_)
      · skip
        refine g_iconst C (v := (-1)) dX12_findIn_29 (by decide) ?_
        exact g_zret (ty := .int) (r := (-1)) B K rfl (rfl) ⟨rfl, rfl, rg_w rc_m1 (by decide) (by decide), (by (try simp only [h_7, if_true, if_false] at hQ_5); (try simp only [h_7, if_true, if_false] at u_6); simp only [hQ_5, u_6, h_7, if_true, if_false]), ⟨fun _ j hj => hj_3 j (Int.lt_of_lt_of_le hj (Int32.le_iff_toInt_le.mp (h_7))), fun q => absurd rfl q⟩⟩ dX12_findIn_30
      · skip
        have r_8 := lt_l (hi := 5) (nle h_7) rv_1 ra2 (by decide)
        have r_9 := lt_r (lo := 1) (nle h_7) rv_1 ra2 (by decide)
        refine g_aload_n C 0 dX12_findIn_9 rfl rfl ?_
        refine g_iload_n C 1 dX12_findIn_10 rfl rfl ?_
        refine g_iload C 4 dX12_findIn_11 rfl ?_
        obtain ⟨x_10, hx_10, rx_10, tx_10⟩ := ex_add 7 12 rc_7 r_8 (by decide) (by decide) (by decide) (by decide)
        refine g_iadd C (v := x_10) dX12_findIn_13 hx_10 ?_
        obtain ⟨y_11, hy_11⟩ : ∃ z, J a0 (x_10.toNatClampNeg) = z := ⟨_, rfl⟩
        refine h_lald C K hLa0 hka0 (v := y_11) (x_10.toNatClampNeg) (rfl) (ix_0 rx_10 (by decide)) (ix_lt rx_10 (by decide) hna0 (by decide)) hy_11 dX12_findIn_14 ?_
        refine g_lload_n C 3 dX12_findIn_15 rfl rfl ?_
        refine g_lcmpX C dX12_findIn_16 (fun x_12 rx_12 hx_12 => ?_)
        have qx_12 := lx_e hx_12
        refine g_if_ne C (tgt := 23) dX12_findIn_17 (by decide) (fun h_13 => ?_) (fun h_13 => ?_)
        · skip
          have n_14 : ¬ x_12 = 0 := h_13
          obtain ⟨x_15, hx_15, rx_15, tx_15⟩ := ex_add (y := 1) 1 6 r_8 rc_1 (by decide) (by decide) (by decide) (by decide)
          refine g_iinc C dX12_findIn_23 (k := 4) (v := x_15) rfl hx_15 (by decide) (lo2 := [(5, .int x_15), (0, .ref a0), (1, .int 7), (2, .int a2), (3, .long a3)]) rfl ?_
          refine g_goto C (tgt := 3) dX12_findIn_26 (by decide) ?_
          refine g_lo (is := [1, 2, 3, 4, 0]) (lo2 := [(0, .ref a0), (1, .int 7), (2, .int a2), (3, .long a3), (5, .int x_15)]) rfl ?_
          exact ih_3 x_15 (rg_w rx_15 (by decide) (by decide)) (by (try simp only [h_7, (nle h_7), hx_10, hy_11, hx_12, h_13, hx_15, if_true, if_false] at hQ_5); (try simp only [h_7, (nle h_7), hx_10, hy_11, hx_12, h_13, hx_15, if_true, if_false] at u_6); simp only [hQ_5, u_6, h_7, (nle h_7), hx_10, hy_11, hx_12, h_13, hx_15, if_true, if_false]) (fun j hj => by by_cases q : (j : Int) < v_1.toInt; exact hj_3 j q; have q1 := ix_n r_8 (by decide); have q2 := (ti_k tx_15 rc_1); rw [show 7 + j = x_10.toNatClampNeg from by have q3 := (show x_10.toNatClampNeg = 7 + v_1.toNatClampNeg from by rw [nx_a tx_10 rc_7 r_8 (by decide)]; simp only [show (7 : Int32).toNatClampNeg = 7 from rfl] <;> omega); omega]; exact (fun q => n_14 (qx_12.mpr (Eq.trans hy_11.symm q)))) (ms_1 hm_4 (ti_k tx_15 rc_1) (by decide))
        · skip
          have r_16 := (⟨(eq_rg (h_13) rc_0).1, (eq_rg (h_13) rc_0).2⟩ : Rg 0 0 x_12)
          refine g_iload C 4 dX12_findIn_20 rfl ?_
          exact g_zret (ty := .int) (r := v_1) B K rfl (rfl) ⟨rfl, rfl, rg_w r_8 (by decide) (by decide), (by (try simp only [h_7, (nle h_7), hx_10, hy_11, hx_12, (eq_true h_13), if_true, if_false] at hQ_5); (try simp only [h_7, (nle h_7), hx_10, hy_11, hx_12, (eq_true h_13), if_true, if_false] at u_6); simp only [hQ_5, u_6, h_7, (nle h_7), hx_10, hy_11, hx_12, (eq_true h_13), if_true, if_false]), ⟨fun q => absurd q (rg_nek r_8 rc_m1 (by decide)), fun _ => ⟨v_1.toNatClampNeg, by rw [ix_n r_8 (by decide)]; exact Int32.lt_iff_toInt_lt.mp (nle h_7), by rw [← (show x_10.toNatClampNeg = 7 + v_1.toNatClampNeg from by rw [nx_a tx_10 rc_7 r_8 (by decide)]; simp only [show (7 : Int32).toNatClampNeg = 7 from rfl] <;> omega), hy_11]; exact qx_12.mp (rg_1k r_16 rc_0)⟩⟩⟩ dX12_findIn_22
  refine g_iconst C (v := 0) dX12_findIn_0 (by decide) ?_
  refine g_istore C dX12_findIn_1 (by decide) (lo2 := [(5, .int 0), (0, .ref a0), (1, .int 7), (2, .int a2), (3, .long a3)]) rfl ?_
  refine g_lo (is := [1, 2, 3, 4, 0]) (lo2 := [(0, .ref a0), (1, .int 7), (2, .int a2), (3, .long a3), (5, .int 0)]) rfl ?_
  exact l_3 7 0 (rg_w rc_0 (by decide) (by decide)) (by simp only [if_true, if_false]) (fun j hj => by rw [show (0 : Int32).toInt = 0 from by decide] at hj; omega) (ms_s (a := 0) (b := 6) (N := 7) (rg_w rc_0 (by decide) (by decide)) (by decide))
set_option maxRecDepth 100000 in
set_option maxHeartbeats 8000000 in
theorem c_X12_isName {l : Launch} {D : va_G} {cy : Nat → ClassId} {L : List Nat} {κ ln : Nat → Nat} {R : Nat → Nat → Option Nat} {I : Nat → Nat → Int32} {J : Nat → Nat → Int64} {ow : Nat → Nat × Nat} (W9 : ∀ a ∈ L, Shp L κ ln R ow a) {x : Nat} (hLx : x ∈ L) (hkx : κ x = 12) (hU : Iw L κ R ow I) : CtI l yX12_isName cX12_isName 2 (some .boolean) { frames := 2, cells := 0, slots := 0, locals := 48 } D cy L κ ln R I J [.ref x] (fun r I2 J2 => I = I2 ∧ J = J2 ∧ Rg 0 1 r ∧ (r = mIsName (MTf R I J x))) := by
  refine CtI.of (by decide +kernel) (Nat.le_of_ble_eq_true rfl) ?_
  intro p e s m below meth c B K
  have C := B.1
  obtain ⟨b_1, hb_1, hb_1L, hb_1k, hb_1n, hb_1o⟩ := shp_a (W9 x hLx) hkx 1 14 940 rfl (by decide)
  have emqx : ∀ I J, MTf R I J x = MTq I J x b_1 := fun I J => by simp only [MTf, rr_, Option.getD_some, hb_1]
  have wmqx : mqw_ L κ ow x b_1 := ⟨⟨hLx, hb_1L⟩, ⟨(ro_o hkx (by decide)), (ro_a hb_1k (by decide) hb_1o hkx rfl)⟩⟩
  obtain ⟨s_2, hs_2⟩ : ∃ z, MTq I J x b_1 = z := ⟨_, rfl⟩
  refine g_lo (is := [0]) (lo2 := [(0, .ref x)]) rfl ?_
  have l_12 : ∀ (n_12 : Nat) (v_3 : Int32) (rv_3 : Rg 0 28 v_3) (v_4 : Int32) (rv_4 : Rg 2 2 v_4) (q_5 : I x 7 = v_4) (hq_6 : mnl v_3 s_2 = mIsName s_2) (hm_7 : 28 < (v_3 : Int32).toInt + (n_12 : Int)), WG p l e { frames := 2, cells := 0, slots := 0, locals := 48 } s m ([.ref x] : List Value).toArray below meth c 2 0 0 (MQ below (Qi_ D cy L κ ln R (fun r I2 J2 => I = I2 ∧ J = J2 ∧ Rg 0 1 r ∧ (r = mIsName (MTf R I J x)))) ([.ref x] : List Value).toArray s 0 0 (Al_ L)) D cy (Al_ L) s.heap L κ ln R I J 12 [(0, .ref x), (1, .int v_3)] [] := by
    intro n_12
    induction n_12 with
    | zero =>
      intro v_3 rv_3 v_4 rv_4 q_5 hq_6 hm_7
      exact ms_0 rv_3 hm_7
    | succ n_12 ih_12 =>
      intro v_3 rv_3 v_4 rv_4 q_5 hq_6 hm_7
      have hQ_8 := hq_6.symm
      have u_9 := mnl_eq (i := v_3) (m := s_2) (rv_3)
      refine g_iload_n C 1 dX12_isName_12 rfl rfl ?_
      refine g_bipush C (v := 27) dX12_isName_13 (by decide) ?_
      refine g_icmp_gt C (tgt := 38) dX12_isName_15 (by decide) (fun h_10 => ?_) (fun h_10 => ?_)
      · skip
        have r_11 := lt_r (lo := 28) (h_10) rc_27 rv_3 (by decide)
        refine g_iconst C (v := 1) dX12_isName_38 (by decide) ?_
        exact g_zret (ty := .boolean) (r := 1) B K rfl (rfl) ⟨rfl, rfl, rg_w rc_1 (by decide) (by decide), (by (try simp only [h_10, if_true, if_false, mqM_tp, mqM_size, mqM_limit, mqM_to, mqM_frm, mqM_kind, mqM_number, mqM_sign, mqM_word, MT_.w_tp, MT_.w_size, MT_.w_limit, MT_.w_to, MT_.w_frm, MT_.w_kind, MT_.w_number, MT_.w_sign, MT_.w_word] at hQ_8); (try simp only [h_10, if_true, if_false, mqM_tp, mqM_size, mqM_limit, mqM_to, mqM_frm, mqM_kind, mqM_number, mqM_sign, mqM_word, MT_.w_tp, MT_.w_size, MT_.w_limit, MT_.w_to, MT_.w_frm, MT_.w_kind, MT_.w_number, MT_.w_sign, MT_.w_word] at u_9); simp only [emqx, hs_2, hQ_8, u_9, h_10, if_true, if_false, mqM_tp, mqM_size, mqM_limit, mqM_to, mqM_frm, mqM_kind, mqM_number, mqM_sign, mqM_word, MT_.w_tp, MT_.w_size, MT_.w_limit, MT_.w_to, MT_.w_frm, MT_.w_kind, MT_.w_number, MT_.w_sign, MT_.w_word])⟩ dX12_isName_39
      · skip
        have r_12 := le_l (nlt h_10) rv_3 rc_27
        refine g_aload_n C 0 dX12_isName_18 rfl rfl ?_
        obtain ⟨y_13, hy_13⟩ : ∃ z, J x 12 = z := ⟨_, rfl⟩
        have f_14 : s_2.word = y_13 := (congrArg MT_.word hs_2).symm.trans hy_13
        refine g_getJ C K hLx hkx f_12_117 (v := y_13) hy_13 dX12_isName_19 ?_
        refine g_iload_n C 1 dX12_isName_22 rfl rfl ?_
        refine g_callSL C K (c_X12_wordOf W9 v_3 (r_12) hU) s_12_136 rfl ⟨rfl, rfl⟩ ⟨Nat.le_of_ble_eq_true rfl, Nat.le_of_ble_eq_true rfl⟩ (Nat.le_of_ble_eq_true rfl) ⟨Nat.le_of_ble_eq_true rfl, Nat.le_of_ble_eq_true rfl⟩ dX12_isName_23 rfl (st := [.long y_13]) (fun x_15 I_16 J_17 h_18 => ?_)
        obtain ⟨rfl, rfl, fx_15⟩ := h_18
        have c_19 : wof (v_3) = x_15 := fx_15.symm
        refine g_lcmpX C dX12_isName_26 (fun x_20 rx_20 hx_20 => ?_)
        refine g_if_ne C (tgt := 32) dX12_isName_27 (by decide) (fun h_21 => ?_) (fun h_21 => ?_)
        · skip
          have n_22 : ¬ x_20 = 0 := h_21
          obtain ⟨x_23, hx_23, rx_23, tx_23⟩ := ex_add (y := 1) 1 28 r_12 rc_1 (by decide) (by decide) (by decide) (by decide)
          refine g_iinc C dX12_isName_32 (k := 1) (v := x_23) rfl hx_23 (by decide) (lo2 := [(1, .int x_23), (0, .ref x)]) rfl ?_
          refine g_goto C (tgt := 12) dX12_isName_35 (by decide) ?_
          refine g_lo (is := [1, 0]) (lo2 := [(0, .ref x), (1, .int x_23)]) rfl ?_
          exact ih_12 x_23 (rg_w rx_23 (by decide) (by decide)) v_4 (rv_4) q_5 (by (try simp only [h_10, (nlt h_10), hy_13, f_14, c_19, hx_20, h_21, hx_23, if_true, if_false, mqM_tp, mqM_size, mqM_limit, mqM_to, mqM_frm, mqM_kind, mqM_number, mqM_sign, mqM_word, MT_.w_tp, MT_.w_size, MT_.w_limit, MT_.w_to, MT_.w_frm, MT_.w_kind, MT_.w_number, MT_.w_sign, MT_.w_word] at hQ_8); (try simp only [h_10, (nlt h_10), hy_13, f_14, c_19, hx_20, h_21, hx_23, if_true, if_false, mqM_tp, mqM_size, mqM_limit, mqM_to, mqM_frm, mqM_kind, mqM_number, mqM_sign, mqM_word, MT_.w_tp, MT_.w_size, MT_.w_limit, MT_.w_to, MT_.w_frm, MT_.w_kind, MT_.w_number, MT_.w_sign, MT_.w_word] at u_9); simp only [emqx, hs_2, hQ_8, u_9, h_10, (nlt h_10), hy_13, f_14, c_19, hx_20, h_21, hx_23, if_true, if_false, mqM_tp, mqM_size, mqM_limit, mqM_to, mqM_frm, mqM_kind, mqM_number, mqM_sign, mqM_word, MT_.w_tp, MT_.w_size, MT_.w_limit, MT_.w_to, MT_.w_frm, MT_.w_kind, MT_.w_number, MT_.w_sign, MT_.w_word]) (ms_1 hm_7 (ti_k tx_23 rc_1) (by decide))
        · skip
          have r_24 := (⟨(eq_rg (h_21) rc_0).1, (eq_rg (h_21) rc_0).2⟩ : Rg 0 0 x_20)
          refine g_iconst C (v := 0) dX12_isName_30 (by decide) ?_
          exact g_zret (ty := .boolean) (r := 0) B K rfl (rfl) ⟨rfl, rfl, rg_w rc_0 (by decide) (by decide), (by (try simp only [h_10, (nlt h_10), hy_13, f_14, c_19, hx_20, (eq_true h_21), if_true, if_false, mqM_tp, mqM_size, mqM_limit, mqM_to, mqM_frm, mqM_kind, mqM_number, mqM_sign, mqM_word, MT_.w_tp, MT_.w_size, MT_.w_limit, MT_.w_to, MT_.w_frm, MT_.w_kind, MT_.w_number, MT_.w_sign, MT_.w_word] at hQ_8); (try simp only [h_10, (nlt h_10), hy_13, f_14, c_19, hx_20, (eq_true h_21), if_true, if_false, mqM_tp, mqM_size, mqM_limit, mqM_to, mqM_frm, mqM_kind, mqM_number, mqM_sign, mqM_word, MT_.w_tp, MT_.w_size, MT_.w_limit, MT_.w_to, MT_.w_frm, MT_.w_kind, MT_.w_number, MT_.w_sign, MT_.w_word] at u_9); simp only [emqx, hs_2, hQ_8, u_9, h_10, (nlt h_10), hy_13, f_14, c_19, hx_20, (eq_true h_21), if_true, if_false, mqM_tp, mqM_size, mqM_limit, mqM_to, mqM_frm, mqM_kind, mqM_number, mqM_sign, mqM_word, MT_.w_tp, MT_.w_size, MT_.w_limit, MT_.w_to, MT_.w_frm, MT_.w_kind, MT_.w_number, MT_.w_sign, MT_.w_word])⟩ dX12_isName_31
  refine g_aload_n C 0 dX12_isName_0 rfl rfl ?_
  obtain ⟨x_25, hx_25, rx_25⟩ := ex_getw (I := I) (a := x) (j := 7) (lo := 0) (hi := 4) hU.1 hLx (ro_o hkx (by decide)) rfl
  have f_26 : s_2.kind = x_25 := (congrArg MT_.kind hs_2).symm.trans hx_25
  refine g_getI C K hLx hkx f_12_104 (v := x_25) hx_25 dX12_isName_1 ?_
  refine g_iconst C (v := 2) dX12_isName_4 (by decide) ?_
  refine g_icmp_eq C (tgt := 10) dX12_isName_5 (by decide) (fun h_27 => ?_) (fun h_27 => ?_)
  · skip
    have r_28 := (⟨(eq_rg (h_27) rc_2).1, (eq_rg (h_27) rc_2).2⟩ : Rg 2 2 x_25)
    refine g_iconst C (v := 0) dX12_isName_10 (by decide) ?_
    refine g_istore_n C dX12_isName_11 rfl (by decide) (lo2 := [(1, .int 0), (0, .ref x)]) rfl ?_
    refine g_lo (is := [1, 0]) (lo2 := [(0, .ref x), (1, .int 0)]) rfl ?_
    exact l_12 29 0 (rg_w rc_0 (by decide) (by decide)) x_25 (r_28) hx_25 (by simp only [mIsName, emqx, hs_2, hx_25, f_26, (eq_true h_27), if_true, if_false, mqM_tp, mqM_size, mqM_limit, mqM_to, mqM_frm, mqM_kind, mqM_number, mqM_sign, mqM_word, MT_.w_tp, MT_.w_size, MT_.w_limit, MT_.w_to, MT_.w_frm, MT_.w_kind, MT_.w_number, MT_.w_sign, MT_.w_word]) (ms_s (a := 0) (b := 28) (N := 29) (rg_w rc_0 (by decide) (by decide)) (by decide))
  · skip
    have n_29 : ¬ x_25 = 2 := h_27
    refine g_iconst C (v := 0) dX12_isName_8 (by decide) ?_
    exact g_zret (ty := .boolean) (r := 0) B K rfl (rfl) ⟨rfl, rfl, rg_w rc_0 (by decide) (by decide), (by simp only [mIsName, emqx, hs_2, hx_25, f_26, h_27, if_true, if_false, mqM_tp, mqM_size, mqM_limit, mqM_to, mqM_frm, mqM_kind, mqM_number, mqM_sign, mqM_word, MT_.w_tp, MT_.w_size, MT_.w_limit, MT_.w_to, MT_.w_frm, MT_.w_kind, MT_.w_number, MT_.w_sign, MT_.w_word])⟩ dX12_isName_9
set_option maxRecDepth 100000 in
set_option maxHeartbeats 8000000 in
theorem c_X12_readNew {l : Launch} {D : va_G} {cy : Nat → ClassId} {L : List Nat} {κ ln : Nat → Nat} {R : Nat → Nat → Option Nat} {I : Nat → Nat → Int32} {J : Nat → Nat → Int64} {ow : Nat → Nat × Nat} (W9 : ∀ a ∈ L, Shp L κ ln R ow a) {x : Nat} (hLx : x ∈ L) (hkx : κ x = 12) (a0 : Int32) (ra0 : Rg 0 12 a0) (hU : Iw L κ R ow I) : CtI l yX12_readNew cX12_readNew 2 (some .boolean) { frames := 3, cells := 0, slots := 0, locals := 69 } D cy L κ ln R I J [.ref x, .int a0] (fun r I2 J2 => Iw L κ R ow I2 ∧ Fq L κ ow [1205, 1206, 1207, 1208, 1209, 1210, 1211] I I2 ∧ Fq L κ ow [1212, 84000] J J2 ∧ Rg 0 1 r ∧ ((r, MTf R I2 J2 x, NRf R I2 J2 x) = mReadNew a0 (MTf R I J x) (NRf R I J x)) ∧ (Pg_ x I I2 ∧ (¬ r = 0 → Ps_ x I I2))) := by
  refine CtI.of (by decide +kernel) (Nat.le_of_ble_eq_true rfl) ?_
  intro p e s m below meth c B K
  have C := B.1
  have hF : Fq L κ ow [1205, 1206, 1207, 1208, 1209, 1210, 1211] I I := fq_rf
  have hG : Fq L κ ow [1212, 84000] J J := fq_rf
  obtain ⟨b_1, hb_1, hb_1L, hb_1k, hb_1n, hb_1o⟩ := shp_a (W9 x hLx) hkx 15 14 72 rfl (by decide)
  obtain ⟨b_2, hb_2, hb_2L, hb_2k, hb_2n, hb_2o⟩ := shp_a (W9 x hLx) hkx 20 15 13 rfl (by decide)
  obtain ⟨b_3, hb_3, hb_3L, hb_3k, hb_3n, hb_3o⟩ := shp_a (W9 x hLx) hkx 1 14 940 rfl (by decide)
  have emqx : ∀ I J, MTf R I J x = MTq I J x b_3 := fun I J => by simp only [MTf, rr_, Option.getD_some, hb_3]
  have wmqx : mqw_ L κ ow x b_3 := ⟨⟨hLx, hb_3L⟩, ⟨(ro_o hkx (by decide)), (ro_a hb_3k (by decide) hb_3o hkx rfl)⟩⟩
  obtain ⟨s_4, hs_4⟩ : ∃ z, MTq I J x b_3 = z := ⟨_, rfl⟩
  have enqx : ∀ I J, NRf R I J x = NRq I J x b_1 b_2 := fun I J => by simp only [NRf, rr_, Option.getD_some, hb_1, hb_2]
  have wnqx : nqw_ L κ ow x b_1 b_2 := ⟨⟨hLx, hb_1L, hb_2L⟩, ⟨(ro_o hkx (by decide)), (ro_a hb_1k (by decide) hb_1o hkx rfl), (ro_a hb_2k (by decide) hb_2o hkx rfl)⟩⟩
  obtain ⟨s_5, hs_5⟩ : ∃ z, NRq I J x b_1 b_2 = z := ⟨_, rfl⟩
  refine g_lo (is := [0, 1]) (lo2 := [(0, .ref x), (1, .int a0)]) rfl ?_
  refine g_aload_n C 0 dX12_readNew_0 rfl rfl ?_
  refine g_callVI C K (c_X12_isName W9 hLx hkx   hU) hLx hkx (by decide) rfl v_12_166 rfl ⟨rfl, rfl⟩ ⟨Nat.le_of_ble_eq_true rfl, Nat.le_of_ble_eq_true rfl⟩ (Nat.le_of_ble_eq_true rfl) ⟨Nat.le_of_ble_eq_true rfl, Nat.le_of_ble_eq_true rfl⟩ dX12_readNew_1 rfl (st := []) (fun x_6 I_7 J_8 h_9 => ?_)
  obtain ⟨rfl, rfl, rx_6, fx_6⟩ := h_9
  have c_10 : mIsName (s_4) = x_6 := by have q := fx_6; simp only [emqx, hs_4] at q; exact q.symm
  refine g_if_ne C (tgt := 13) dX12_readNew_4 (by decide) (fun h_11 => ?_) (fun h_11 => ?_)
  · skip
    have n_12 : ¬ x_6 = 0 := h_11
    have r_13 := ne_lo (lo := 1) n_12 rx_6 rc_0 rfl (by decide)
    refine g_aload_n C 0 dX12_readNew_13 rfl rfl ?_
    refine g_getR C K hLx hkx f_12_32 hb_2 dX12_readNew_14 ?_
    refine g_iconst C (v := 0) dX12_readNew_17 (by decide) ?_
    refine g_aload_n C 0 dX12_readNew_18 rfl rfl ?_
    refine g_getR C K hLx hkx f_12_16 hb_1 dX12_readNew_19 ?_
    refine g_iconst C (v := 0) dX12_readNew_22 (by decide) ?_
    obtain ⟨x_14, hx_14, rx_14⟩ := ex_getw (I := I) (a := b_1) (j := 0) (lo := 0) (hi := 7) hU.1 hb_1L (ro_a hb_1k (by decide) hb_1o hkx rfl) (by decide)
    refine h_iald C K hb_1L hb_1k (v := x_14) (0) (by decide) (by decide) (by rw [hb_1n]; decide) hx_14 dX12_readNew_23 ?_
    have f_15 : s_5.rd (0) = x_14 := (congrFun (congrArg NR_.rd hs_5) _).symm.trans hx_14
    refine g_aload_n C 0 dX12_readNew_24 rfl rfl ?_
    obtain ⟨y_16, hy_16⟩ : ∃ z, J x 12 = z := ⟨_, rfl⟩
    have f_17 : s_4.word = y_16 := (congrArg MT_.word hs_4).symm.trans hy_16
    refine g_getJ C K hLx hkx f_12_117 (v := y_16) hy_16 dX12_readNew_25 ?_
    refine g_callSI C K (c_X12_findIn_0 W9 hb_2L hb_2k hb_2n x_14 y_16 (rx_14) hU) s_12_170 rfl ⟨rfl, rfl⟩ ⟨Nat.le_of_ble_eq_true rfl, Nat.le_of_ble_eq_true rfl⟩ (Nat.le_of_ble_eq_true rfl) ⟨Nat.le_of_ble_eq_true rfl, Nat.le_of_ble_eq_true rfl⟩ dX12_readNew_28 rfl (st := []) (fun x_18 I_19 J_20 h_21 => ?_)
    obtain ⟨rfl, rfl, rx_18, fx_18, ex_18⟩ := h_21
    have c_22 : mfnd s_5.rn (0) (x_14) y_16 0 = x_18 := by have q := fx_18; rw [show J b_2 = s_5.rn from congrArg NR_.rn hs_5] at q; exact q.symm
    refine g_iconst C (v := (-1)) dX12_readNew_31 (by decide) ?_
    refine g_icmp_ne C (tgt := 58) dX12_readNew_32 (by decide) (fun h_23 => ?_) (fun h_23 => ?_)
    · skip
      have n_24 : ¬ x_18 = (-1) := h_23
      have r_25 := ne_lo (lo := 0) n_24 rx_18 rc_m1 rfl (by decide)
      refine g_aload_n C 0 dX12_readNew_58 rfl rfl ?_
      refine g_iconst C (v := 3) dX12_readNew_59 (by decide) ?_
      refine g_callVI C K (c_X12_bad W9 hLx hkx 3 (rg_w rc_3 (by decide) (by decide)) hU) hLx hkx (by decide) rfl v_12_146 rfl ⟨rfl, rfl⟩ ⟨Nat.le_of_ble_eq_true rfl, Nat.le_of_ble_eq_true rfl⟩ (Nat.le_of_ble_eq_true rfl) ⟨Nat.le_of_ble_eq_true rfl, Nat.le_of_ble_eq_true rfl⟩ dX12_readNew_60 rfl (st := []) (fun x_26 I_27 J_28 h_29 => ?_)
      obtain ⟨hUI_27, hFI_27, hGJ_28, rx_26, fx_26⟩ := h_29
      have hF_30 := fq_tr hF hFI_27 (by decide)
      have hG_31 := fq_tr hG hGJ_28 (by decide)
      obtain ⟨s_33, hs_33⟩ : ∃ z, MTq I_27 J_28 x b_3 = z := ⟨_, rfl⟩
      obtain ⟨s_34, hs_34⟩ : ∃ z, NRq I_27 J_28 x b_1 b_2 = z := ⟨_, rfl⟩
      have c_32 : mBad (3) (s_4) (s_5) = (x_26, s_33, s_34) := by have q := fx_26; simp only [emqx, enqx, hs_4, hs_5, hs_33, hs_34] at q; exact q.symm
      exact g_zret (ty := .boolean) (r := x_26) B K rfl (nar_z (rg_w rx_26 (by decide) (by decide))) ⟨hUI_27, hF_30, hG_31, rg_w rx_26 (by decide) (by decide), (by simp only [mReadNew, emqx, hs_33, hs_4, enqx, hs_34, hs_5, c_10, h_11, hx_14, f_15, hy_16, f_17, c_22, h_23, c_32, if_true, if_false, mqM_tp, mqM_size, mqM_limit, mqM_to, mqM_frm, mqM_kind, mqM_number, mqM_sign, mqM_word, MT_.w_tp, MT_.w_size, MT_.w_limit, MT_.w_to, MT_.w_frm, MT_.w_kind, MT_.w_number, MT_.w_sign, MT_.w_word, nqM_rd, nqM_rn, nqM_taped, nqM_mfault, nqM_mplace, nqM_told, nqM_hl, nqM_hd, NR_.w_rd, NR_.w_rn, NR_.w_taped, NR_.w_mfault, NR_.w_mplace, NR_.w_told, NR_.w_hl, NR_.w_hd]), ⟨(pg_fq pg_rf hFI_27 hLx hkx (by decide) (by decide)), fun q => ne_no q rx_26 rc_0⟩⟩ dX12_readNew_63
    · skip
      have r_35 := (⟨(rx_18).1, (eq_rg (h_23) rc_m1).2⟩ : Rg (-1) (-1) x_18)
      refine g_aload_n C 0 dX12_readNew_35 rfl rfl ?_
      refine g_getR C K hLx hkx f_12_32 hb_2 dX12_readNew_36 ?_
      refine g_bipush C (v := 7) dX12_readNew_39 (by decide) ?_
      refine g_aload_n C 0 dX12_readNew_41 rfl rfl ?_
      refine g_getR C K hLx hkx f_12_16 hb_1 dX12_readNew_42 ?_
      refine g_iconst C (v := 1) dX12_readNew_45 (by decide) ?_
      obtain ⟨x_36, hx_36, rx_36⟩ := ex_getw (I := I) (a := b_1) (j := 1) (lo := 0) (hi := 6) hU.1 hb_1L (ro_a hb_1k (by decide) hb_1o hkx rfl) (by decide)
      refine h_iald C K hb_1L hb_1k (v := x_36) (1) (by decide) (by decide) (by rw [hb_1n]; decide) hx_36 dX12_readNew_46 ?_
      have f_37 : s_5.rd (1) = x_36 := (congrFun (congrArg NR_.rd hs_5) _).symm.trans hx_36
      refine g_aload_n C 0 dX12_readNew_47 rfl rfl ?_
      refine g_getJ C K hLx hkx f_12_117 (v := y_16) hy_16 dX12_readNew_48 ?_
      refine g_callSI C K (c_X12_findIn_7 W9 hb_2L hb_2k hb_2n x_36 y_16 (rx_36) hU) s_12_170 rfl ⟨rfl, rfl⟩ ⟨Nat.le_of_ble_eq_true rfl, Nat.le_of_ble_eq_true rfl⟩ (Nat.le_of_ble_eq_true rfl) ⟨Nat.le_of_ble_eq_true rfl, Nat.le_of_ble_eq_true rfl⟩ dX12_readNew_51 rfl (st := []) (fun x_38 I_39 J_40 h_41 => ?_)
      obtain ⟨rfl, rfl, rx_38, fx_38, ex_38⟩ := h_41
      have c_42 : mfnd s_5.rn (7) (x_36) y_16 0 = x_38 := by have q := fx_38; rw [show J b_2 = s_5.rn from congrArg NR_.rn hs_5] at q; exact q.symm
      refine g_iconst C (v := (-1)) dX12_readNew_54 (by decide) ?_
      refine g_icmp_eq C (tgt := 64) dX12_readNew_55 (by decide) (fun h_43 => ?_) (fun h_43 => ?_)
      · skip
        have r_44 := (⟨(rx_38).1, (eq_rg (h_43) rc_m1).2⟩ : Rg (-1) (-1) x_38)
        refine g_aload_n C 0 dX12_readNew_64 rfl rfl ?_
        refine g_getR C K hLx hkx f_12_32 hb_2 dX12_readNew_65 ?_
        refine g_iload_n C 1 dX12_readNew_68 rfl rfl ?_
        refine g_aload_n C 0 dX12_readNew_69 rfl rfl ?_
        refine g_getJ C K hLx hkx f_12_117 (v := y_16) hy_16 dX12_readNew_70 ?_
        refine h_last C K hb_2L hb_2k (a0.toNatClampNeg) (rfl) (ix_0 ra0 (by decide)) (ix_lt ra0 (by decide) hb_2n (by decide)) dX12_readNew_73 (fun J_45 hJ_45 => ?_)
        have hG_46 := fq_puta hG hJ_45 (ro_a hb_2k (by decide) hb_2o hkx rfl) (by decide) (by decide)
        have hs_47 : MTq I J_45 x b_3 = s_4 := by rw [hJ_45]; exact (mq_oJ wmqx (ro_a hb_2k (by decide) hb_2o hkx rfl) (by decide)).trans hs_4
        have hs_48 : NRq I J_45 x b_1 b_2 = (NR_.w_rn s_5 (up1 (s_5.rn) (a0.toNatClampNeg) (y_16))) := by rw [hJ_45]; exact ((nq_rn wnqx).trans (congrArg (fun z : NR_ => NR_.w_rn z (up1 (z.rn) (a0.toNatClampNeg) (y_16))) hs_5)).trans rfl
        refine g_aload_n C 0 dX12_readNew_74 rfl rfl ?_
        refine g_callVV C K (c_X12_go W9 hLx hkx   hU) hLx hkx (by decide) rfl v_12_156 rfl ⟨rfl, rfl⟩ ⟨Nat.le_of_ble_eq_true rfl, Nat.le_of_ble_eq_true rfl⟩ (Nat.le_of_ble_eq_true rfl) ⟨Nat.le_of_ble_eq_true rfl, Nat.le_of_ble_eq_true rfl⟩ dX12_readNew_75 rfl (st := []) (fun I_50 J_51 h_52 => ?_)
        obtain ⟨hUI_50, hFI_50, hGJ_51, fx_49, ex_49⟩ := h_52
        have hF_53 := fq_tr hF hFI_50 (by decide)
        have hG_54 := fq_tr hG_46 hGJ_51 (by decide)
        obtain ⟨s_56, hs_56⟩ : ∃ z, MTq I_50 J_51 x b_3 = z := ⟨_, rfl⟩
        have c_55 : mGo (s_4) = s_56 := by have q := fx_49; simp only [emqx, hs_47, hs_56] at q; exact q.symm
        have hs_57 : NRq I_50 J_51 x b_1 b_2 = (NR_.w_rn s_5 (up1 (s_5.rn) (a0.toNatClampNeg) (y_16))) := (nq_fq wnqx hFI_50 hGJ_51 (by decide) (by decide)).trans hs_48
        refine g_iconst C (v := 1) dX12_readNew_78 (by decide) ?_
        exact g_zret (ty := .boolean) (r := 1) B K rfl (rfl) ⟨hUI_50, hF_53, hG_54, rg_w rc_1 (by decide) (by decide), (by simp only [mReadNew, emqx, hs_56, hs_4, enqx, hs_57, hs_5, c_10, h_11, hx_14, f_15, hy_16, f_17, c_22, (eq_true h_23), hx_36, f_37, c_42, (eq_true h_43), c_55, if_true, if_false, mqM_tp, mqM_size, mqM_limit, mqM_to, mqM_frm, mqM_kind, mqM_number, mqM_sign, mqM_word, MT_.w_tp, MT_.w_size, MT_.w_limit, MT_.w_to, MT_.w_frm, MT_.w_kind, MT_.w_number, MT_.w_sign, MT_.w_word, nqM_rd, nqM_rn, nqM_taped, nqM_mfault, nqM_mplace, nqM_told, nqM_hl, nqM_hd, NR_.w_rd, NR_.w_rn, NR_.w_taped, NR_.w_mfault, NR_.w_mplace, NR_.w_told, NR_.w_hl, NR_.w_hd]), ⟨(pg_s (ps_t2 pg_rf ex_49)), fun _ => (ps_t2 pg_rf ex_49)⟩⟩ dX12_readNew_79
      · skip
        have n_58 : ¬ x_38 = (-1) := h_43
        have r_59 := ne_lo (lo := 0) n_58 rx_38 rc_m1 rfl (by decide)
        refine g_aload_n C 0 dX12_readNew_58 rfl rfl ?_
        refine g_iconst C (v := 3) dX12_readNew_59 (by decide) ?_
        refine g_callVI C K (c_X12_bad W9 hLx hkx 3 (rg_w rc_3 (by decide) (by decide)) hU) hLx hkx (by decide) rfl v_12_146 rfl ⟨rfl, rfl⟩ ⟨Nat.le_of_ble_eq_true rfl, Nat.le_of_ble_eq_true rfl⟩ (Nat.le_of_ble_eq_true rfl) ⟨Nat.le_of_ble_eq_true rfl, Nat.le_of_ble_eq_true rfl⟩ dX12_readNew_60 rfl (st := []) (fun x_60 I_61 J_62 h_63 => ?_)
        obtain ⟨hUI_61, hFI_61, hGJ_62, rx_60, fx_60⟩ := h_63
        have hF_64 := fq_tr hF hFI_61 (by decide)
        have hG_65 := fq_tr hG hGJ_62 (by decide)
        obtain ⟨s_67, hs_67⟩ : ∃ z, MTq I_61 J_62 x b_3 = z := ⟨_, rfl⟩
        obtain ⟨s_68, hs_68⟩ : ∃ z, NRq I_61 J_62 x b_1 b_2 = z := ⟨_, rfl⟩
        have c_66 : mBad (3) (s_4) (s_5) = (x_60, s_67, s_68) := by have q := fx_60; simp only [emqx, enqx, hs_4, hs_5, hs_67, hs_68] at q; exact q.symm
        exact g_zret (ty := .boolean) (r := x_60) B K rfl (nar_z (rg_w rx_60 (by decide) (by decide))) ⟨hUI_61, hF_64, hG_65, rg_w rx_60 (by decide) (by decide), (by simp only [mReadNew, emqx, hs_67, hs_4, enqx, hs_68, hs_5, c_10, h_11, hx_14, f_15, hy_16, f_17, c_22, (eq_true h_23), hx_36, f_37, c_42, h_43, c_66, if_true, if_false, mqM_tp, mqM_size, mqM_limit, mqM_to, mqM_frm, mqM_kind, mqM_number, mqM_sign, mqM_word, MT_.w_tp, MT_.w_size, MT_.w_limit, MT_.w_to, MT_.w_frm, MT_.w_kind, MT_.w_number, MT_.w_sign, MT_.w_word, nqM_rd, nqM_rn, nqM_taped, nqM_mfault, nqM_mplace, nqM_told, nqM_hl, nqM_hd, NR_.w_rd, NR_.w_rn, NR_.w_taped, NR_.w_mfault, NR_.w_mplace, NR_.w_told, NR_.w_hl, NR_.w_hd]), ⟨(pg_fq pg_rf hFI_61 hLx hkx (by decide) (by decide)), fun q => ne_no q rx_60 rc_0⟩⟩ dX12_readNew_63
  · skip
    have r_69 := (⟨(rx_6).1, (eq_rg (h_11) rc_0).2⟩ : Rg 0 0 x_6)
    refine g_aload_n C 0 dX12_readNew_7 rfl rfl ?_
    refine g_iconst C (v := 1) dX12_readNew_8 (by decide) ?_
    refine g_callVI C K (c_X12_bad W9 hLx hkx 1 (rg_w rc_1 (by decide) (by decide)) hU) hLx hkx (by decide) rfl v_12_146 rfl ⟨rfl, rfl⟩ ⟨Nat.le_of_ble_eq_true rfl, Nat.le_of_ble_eq_true rfl⟩ (Nat.le_of_ble_eq_true rfl) ⟨Nat.le_of_ble_eq_true rfl, Nat.le_of_ble_eq_true rfl⟩ dX12_readNew_9 rfl (st := []) (fun x_70 I_71 J_72 h_73 => ?_)
    obtain ⟨hUI_71, hFI_71, hGJ_72, rx_70, fx_70⟩ := h_73
    have hF_74 := fq_tr hF hFI_71 (by decide)
    have hG_75 := fq_tr hG hGJ_72 (by decide)
    obtain ⟨s_77, hs_77⟩ : ∃ z, MTq I_71 J_72 x b_3 = z := ⟨_, rfl⟩
    obtain ⟨s_78, hs_78⟩ : ∃ z, NRq I_71 J_72 x b_1 b_2 = z := ⟨_, rfl⟩
    have c_76 : mBad (1) (s_4) (s_5) = (x_70, s_77, s_78) := by have q := fx_70; simp only [emqx, enqx, hs_4, hs_5, hs_77, hs_78] at q; exact q.symm
    exact g_zret (ty := .boolean) (r := x_70) B K rfl (nar_z (rg_w rx_70 (by decide) (by decide))) ⟨hUI_71, hF_74, hG_75, rg_w rx_70 (by decide) (by decide), (by simp only [mReadNew, emqx, hs_77, hs_4, enqx, hs_78, hs_5, c_10, (eq_true h_11), c_76, if_true, if_false, mqM_tp, mqM_size, mqM_limit, mqM_to, mqM_frm, mqM_kind, mqM_number, mqM_sign, mqM_word, MT_.w_tp, MT_.w_size, MT_.w_limit, MT_.w_to, MT_.w_frm, MT_.w_kind, MT_.w_number, MT_.w_sign, MT_.w_word, nqM_rd, nqM_rn, nqM_taped, nqM_mfault, nqM_mplace, nqM_told, nqM_hl, nqM_hd, NR_.w_rd, NR_.w_rn, NR_.w_taped, NR_.w_mfault, NR_.w_mplace, NR_.w_told, NR_.w_hl, NR_.w_hd]), ⟨(pg_fq pg_rf hFI_71 hLx hkx (by decide) (by decide)), fun q => ne_no q rx_70 rc_0⟩⟩ dX12_readNew_12
set_option maxRecDepth 100000 in
set_option maxHeartbeats 8000000 in
theorem c_X12_isIn {l : Launch} {D : va_G} {cy : Nat → ClassId} {L : List Nat} {κ ln : Nat → Nat} {R : Nat → Nat → Option Nat} {I : Nat → Nat → Int32} {J : Nat → Nat → Int64} {ow : Nat → Nat × Nat} (W9 : ∀ a ∈ L, Shp L κ ln R ow a) (a0 : Int32) (a1 : Int32) (a2 : Int32) (ra1 : Rg 0 1 a1) (ra2 : Rg (-1) 999 a2) (hU : Iw L κ R ow I) : CtI l yX12_isIn cX12_isIn 3 (some .boolean) { frames := 0, cells := 0, slots := 0, locals := 0 } D cy L κ ln R I J [.int a0, .int a1, .int a2] (fun r I2 J2 => I = I2 ∧ J = J2 ∧ Rg 0 1 r ∧ (r = isIn_ a0 a1 a2) ∧ (¬ r = 0 → a1 ≤ a0) ∧ (¬ r = 0 → a0 ≤ a2)) := by
  refine CtI.of (by decide +kernel) (Nat.le_of_ble_eq_true rfl) ?_
  intro p e s m below meth c B K
  have C := B.1
  refine g_lo (is := [0, 1, 2]) (lo2 := [(0, .int a0), (1, .int a1), (2, .int a2)]) rfl ?_
  refine g_iload_n C 0 dX12_isIn_0 rfl rfl ?_
  refine g_iload_n C 1 dX12_isIn_1 rfl rfl ?_
  refine g_icmp_lt C (tgt := 14) dX12_isIn_2 (by decide) (fun h_1 => ?_) (fun h_1 => ?_)
  · skip
    have r_2 := lt_l (hi := 0) (h_1) (rg_all a0) ra1 (by decide)
    refine g_iconst C (v := 0) dX12_isIn_14 (by decide) ?_
    exact g_zret (ty := .boolean) (r := 0) B K rfl (rfl) ⟨rfl, rfl, rg_w rc_0 (by decide) (by decide), (by simp only [isIn_, h_1, if_true, if_false]), (fun q => absurd rfl q), (fun q => absurd rfl q)⟩ dX12_isIn_15
  · skip
    have r_3 := le_r (nlt h_1) ra1 (rg_all a0)
    refine g_iload_n C 0 dX12_isIn_5 rfl rfl ?_
    refine g_iload_n C 2 dX12_isIn_6 rfl rfl ?_
    refine g_icmp_gt C (tgt := 14) dX12_isIn_7 (by decide) (fun h_4 => ?_) (fun h_4 => ?_)
    · skip
      refine g_iconst C (v := 0) dX12_isIn_14 (by decide) ?_
      exact g_zret (ty := .boolean) (r := 0) B K rfl (rfl) ⟨rfl, rfl, rg_w rc_0 (by decide) (by decide), (by simp only [isIn_, h_1, (nlt h_1), h_4, if_true, if_false]), (fun q => absurd rfl q), (fun q => absurd rfl q)⟩ dX12_isIn_15
    · skip
      have r_5 := le_l (nlt h_4) r_3 ra2
      have r_6 := le_r (nlt h_4) r_3 ra2
      refine g_iconst C (v := 1) dX12_isIn_10 (by decide) ?_
      refine g_goto C (tgt := 15) dX12_isIn_11 (by decide) ?_
      exact g_zret (ty := .boolean) (r := 1) B K rfl (rfl) ⟨rfl, rfl, rg_w rc_1 (by decide) (by decide), (by simp only [isIn_, h_1, (nlt h_1), h_4, (nlt h_4), if_true, if_false]), (fun _ => nlt h_1), (fun _ => nlt h_4)⟩ dX12_isIn_15
set_option maxRecDepth 100000 in
set_option maxHeartbeats 8000000 in
theorem c_X12_readNumber_0_99 {l : Launch} {D : va_G} {cy : Nat → ClassId} {L : List Nat} {κ ln : Nat → Nat} {R : Nat → Nat → Option Nat} {I : Nat → Nat → Int32} {J : Nat → Nat → Int64} {ow : Nat → Nat × Nat} (W9 : ∀ a ∈ L, Shp L κ ln R ow a) {x : Nat} (hLx : x ∈ L) (hkx : κ x = 12) (hU : Iw L κ R ow I) : CtI l yX12_readNumber cX12_readNumber 3 (some .boolean) { frames := 2, cells := 0, slots := 0, locals := 45 } D cy L κ ln R I J [.ref x, .int 0, .int 99] (fun r I2 J2 => Iw L κ R ow I2 ∧ Fq L κ ow [1205, 1206, 1207, 1208, 1209, 1210, 1211, 1213] I I2 ∧ Fq L κ ow [1212] J J2 ∧ Rg 0 1 r ∧ ((r, MTf R I2 J2 x, NRf R I2 J2 x) = mReadNumber (0) (99) (MTf R I J x) (NRf R I J x)) ∧ (Pg_ x I I2 ∧ (¬ r = 0 → Ps_ x I I2)) ∧ (¬ r = 0 → Rg 0 99 (I2 x 13))) := by
  refine CtI.of (by decide +kernel) (Nat.le_of_ble_eq_true rfl) ?_
  intro p e s m below meth c B K
  have C := B.1
  have hF : Fq L κ ow [1205, 1206, 1207, 1208, 1209, 1210, 1211, 1213] I I := fq_rf
  have hG : Fq L κ ow [1212] J J := fq_rf
  obtain ⟨b_1, hb_1, hb_1L, hb_1k, hb_1n, hb_1o⟩ := shp_a (W9 x hLx) hkx 1 14 940 rfl (by decide)
  have emqx : ∀ I J, MTf R I J x = MTq I J x b_1 := fun I J => by simp only [MTf, rr_, Option.getD_some, hb_1]
  have wmqx : mqw_ L κ ow x b_1 := ⟨⟨hLx, hb_1L⟩, ⟨(ro_o hkx (by decide)), (ro_a hb_1k (by decide) hb_1o hkx rfl)⟩⟩
  obtain ⟨s_2, hs_2⟩ : ∃ z, MTq I J x b_1 = z := ⟨_, rfl⟩
  obtain ⟨b_3, hb_3, hb_3L, hb_3k, hb_3n, hb_3o⟩ := shp_a (W9 x hLx) hkx 15 14 72 rfl (by decide)
  obtain ⟨b_4, hb_4, hb_4L, hb_4k, hb_4n, hb_4o⟩ := shp_a (W9 x hLx) hkx 20 15 13 rfl (by decide)
  have enqx : ∀ I J, NRf R I J x = NRq I J x b_3 b_4 := fun I J => by simp only [NRf, rr_, Option.getD_some, hb_3, hb_4]
  have wnqx : nqw_ L κ ow x b_3 b_4 := ⟨⟨hLx, hb_3L, hb_4L⟩, ⟨(ro_o hkx (by decide)), (ro_a hb_3k (by decide) hb_3o hkx rfl), (ro_a hb_4k (by decide) hb_4o hkx rfl)⟩⟩
  obtain ⟨s_5, hs_5⟩ : ∃ z, NRq I J x b_3 b_4 = z := ⟨_, rfl⟩
  refine g_lo (is := [0, 1, 2]) (lo2 := [(0, .ref x), (1, .int 0), (2, .int 99)]) rfl ?_
  refine g_aload_n C 0 dX12_readNumber_0 rfl rfl ?_
  obtain ⟨x_6, hx_6, rx_6⟩ := ex_getw (I := I) (a := x) (j := 7) (lo := 0) (hi := 4) hU.1 hLx (ro_o hkx (by decide)) rfl
  have f_7 : s_2.kind = x_6 := (congrArg MT_.kind hs_2).symm.trans hx_6
  refine g_getI C K hLx hkx f_12_104 (v := x_6) hx_6 dX12_readNumber_1 ?_
  refine g_iconst C (v := 3) dX12_readNumber_4 (by decide) ?_
  refine g_icmp_eq C (tgt := 14) dX12_readNumber_5 (by decide) (fun h_8 => ?_) (fun h_8 => ?_)
  · skip
    have r_9 := (⟨(eq_rg (h_8) rc_3).1, (eq_rg (h_8) rc_3).2⟩ : Rg 3 3 x_6)
    refine g_aload_n C 0 dX12_readNumber_14 rfl rfl ?_
    obtain ⟨x_10, hx_10, rx_10⟩ := ex_getw (I := I) (a := x) (j := 8) (lo := (-2147483648)) (hi := 2147483647) hU.1 hLx (ro_o hkx (by decide)) rfl
    have f_11 : s_2.number = x_10 := (congrArg MT_.number hs_2).symm.trans hx_10
    refine g_getI C K hLx hkx f_12_121 (v := x_10) hx_10 dX12_readNumber_15 ?_
    refine g_iload_n C 1 dX12_readNumber_18 rfl rfl ?_
    refine g_iload_n C 2 dX12_readNumber_19 rfl rfl ?_
    refine g_callSI C K (c_X12_isIn W9 x_10 0 99 (rg_w rc_0 (by decide) (by decide)) (rg_w rc_99 (by decide) (by decide)) hU) s_12_149 rfl ⟨rfl, rfl⟩ ⟨Nat.le_of_ble_eq_true rfl, Nat.le_of_ble_eq_true rfl⟩ (Nat.le_of_ble_eq_true rfl) ⟨Nat.le_of_ble_eq_true rfl, Nat.le_of_ble_eq_true rfl⟩ dX12_readNumber_20 rfl (st := []) (fun x_12 I_13 J_14 h_15 => ?_)
    obtain ⟨rfl, rfl, rx_12, fx_12, ex_12⟩ := h_15
    have c_16 : isIn_ (x_10) (0) (99) = x_12 := fx_12.symm
    refine g_if_ne C (tgt := 32) dX12_readNumber_23 (by decide) (fun h_17 => ?_) (fun h_17 => ?_)
    · skip
      have n_18 : ¬ x_12 = 0 := h_17
      have r_19 := ne_lo (lo := 1) n_18 rx_12 rc_0 rfl (by decide)
      have r_20 := le_r (((ex_12.1) n_18)) rc_0 rx_10
      have r_21 := le_l (((ex_12.2) n_18)) r_20 rc_99
      refine g_aload_n C 0 dX12_readNumber_32 rfl rfl ?_
      refine g_aload_n C 0 dX12_readNumber_33 rfl rfl ?_
      refine g_getI C K hLx hkx f_12_121 (v := x_10) hx_10 dX12_readNumber_34 ?_
      refine h_putI C K hLx hkx f_12_153 p_12_13 dX12_readNumber_37 (fun I_22 hI_22 => ?_)
      have hU_23 := iw_put W9 hU hI_22 (ro_o hkx (by decide)) (lo := (-2147483648)) (hi := 2147483647) (rfl) (rg_all _) rfl
      have hF_24 := fq_puto hF hI_22 hkx (by decide) (by decide)
      have hs_25 : MTq I_22 J x b_1 = s_2 := by rw [hI_22]; exact (mq_uIt wmqx (by decide)).trans hs_2
      have hs_26 : NRq I_22 J x b_3 b_4 = (NR_.w_told s_5 (x_10)) := by rw [hI_22]; exact ((nq_told wnqx).trans (congrArg (fun z : NR_ => NR_.w_told z (x_10)) hs_5)).trans rfl
      refine g_aload_n C 0 dX12_readNumber_40 rfl rfl ?_
      refine g_callVV C K (c_X12_go W9 hLx hkx   hU_23) hLx hkx (by decide) rfl v_12_156 rfl ⟨rfl, rfl⟩ ⟨Nat.le_of_ble_eq_true rfl, Nat.le_of_ble_eq_true rfl⟩ (Nat.le_of_ble_eq_true rfl) ⟨Nat.le_of_ble_eq_true rfl, Nat.le_of_ble_eq_true rfl⟩ dX12_readNumber_41 rfl (st := []) (fun I_28 J_29 h_30 => ?_)
      obtain ⟨hUI_28, hFI_28, hGJ_29, fx_27, ex_27⟩ := h_30
      have hF_31 := fq_tr hF_24 hFI_28 (by decide)
      have hG_32 := fq_tr hG hGJ_29 (by decide)
      obtain ⟨s_34, hs_34⟩ : ∃ z, MTq I_28 J_29 x b_1 = z := ⟨_, rfl⟩
      have c_33 : mGo (s_2) = s_34 := by have q := fx_27; simp only [emqx, hs_25, hs_34] at q; exact q.symm
      have hs_35 : NRq I_28 J_29 x b_3 b_4 = (NR_.w_told s_5 (x_10)) := (nq_fq wnqx hFI_28 hGJ_29 (by decide) (by decide)).trans hs_26
      refine g_iconst C (v := 1) dX12_readNumber_44 (by decide) ?_
      exact g_zret (ty := .boolean) (r := 1) B K rfl (rfl) ⟨hUI_28, hF_31, hG_32, rg_w rc_1 (by decide) (by decide), (by simp only [mReadNumber, emqx, hs_34, hs_2, enqx, hs_35, hs_5, hx_6, f_7, (eq_true h_8), hx_10, f_11, c_16, h_17, c_33, if_true, if_false, mqM_tp, mqM_size, mqM_limit, mqM_to, mqM_frm, mqM_kind, mqM_number, mqM_sign, mqM_word, MT_.w_tp, MT_.w_size, MT_.w_limit, MT_.w_to, MT_.w_frm, MT_.w_kind, MT_.w_number, MT_.w_sign, MT_.w_word, nqM_rd, nqM_rn, nqM_taped, nqM_mfault, nqM_mplace, nqM_told, nqM_hl, nqM_hd, NR_.w_rd, NR_.w_rn, NR_.w_taped, NR_.w_mfault, NR_.w_mplace, NR_.w_told, NR_.w_hl, NR_.w_hd]), ⟨(pg_s (ps_t2 (pg_u pg_rf hI_22 (Or.inr (by decide)) (Or.inr (by decide))) ex_27)), fun _ => (ps_t2 (pg_u pg_rf hI_22 (Or.inr (by decide)) (Or.inr (by decide))) ex_27)⟩, (fun _ => eq_rg (fq_at hFI_28 hLx hkx (by decide) (by decide) (kp_s hI_22)) (r_21))⟩ dX12_readNumber_45
    · skip
      have r_36 := (⟨(rx_12).1, (eq_rg (h_17) rc_0).2⟩ : Rg 0 0 x_12)
      refine g_aload_n C 0 dX12_readNumber_26 rfl rfl ?_
      refine g_iconst C (v := 2) dX12_readNumber_27 (by decide) ?_
      refine g_callVI C K (c_X12_bad W9 hLx hkx 2 (rg_w rc_2 (by decide) (by decide)) hU) hLx hkx (by decide) rfl v_12_146 rfl ⟨rfl, rfl⟩ ⟨Nat.le_of_ble_eq_true rfl, Nat.le_of_ble_eq_true rfl⟩ (Nat.le_of_ble_eq_true rfl) ⟨Nat.le_of_ble_eq_true rfl, Nat.le_of_ble_eq_true rfl⟩ dX12_readNumber_28 rfl (st := []) (fun x_37 I_38 J_39 h_40 => ?_)
      obtain ⟨hUI_38, hFI_38, hGJ_39, rx_37, fx_37⟩ := h_40
      have hF_41 := fq_tr hF hFI_38 (by decide)
      have hG_42 := fq_tr hG hGJ_39 (by decide)
      obtain ⟨s_44, hs_44⟩ : ∃ z, MTq I_38 J_39 x b_1 = z := ⟨_, rfl⟩
      obtain ⟨s_45, hs_45⟩ : ∃ z, NRq I_38 J_39 x b_3 b_4 = z := ⟨_, rfl⟩
      have c_43 : mBad (2) (s_2) (s_5) = (x_37, s_44, s_45) := by have q := fx_37; simp only [emqx, enqx, hs_2, hs_5, hs_44, hs_45] at q; exact q.symm
      exact g_zret (ty := .boolean) (r := x_37) B K rfl (nar_z (rg_w rx_37 (by decide) (by decide))) ⟨hUI_38, hF_41, hG_42, rg_w rx_37 (by decide) (by decide), (by simp only [mReadNumber, emqx, hs_44, hs_2, enqx, hs_45, hs_5, hx_6, f_7, (eq_true h_8), hx_10, f_11, c_16, (eq_true h_17), c_43, if_true, if_false, mqM_tp, mqM_size, mqM_limit, mqM_to, mqM_frm, mqM_kind, mqM_number, mqM_sign, mqM_word, MT_.w_tp, MT_.w_size, MT_.w_limit, MT_.w_to, MT_.w_frm, MT_.w_kind, MT_.w_number, MT_.w_sign, MT_.w_word, nqM_rd, nqM_rn, nqM_taped, nqM_mfault, nqM_mplace, nqM_told, nqM_hl, nqM_hd, NR_.w_rd, NR_.w_rn, NR_.w_taped, NR_.w_mfault, NR_.w_mplace, NR_.w_told, NR_.w_hl, NR_.w_hd]), ⟨(pg_fq pg_rf hFI_38 hLx hkx (by decide) (by decide)), fun q => ne_no q rx_37 rc_0⟩, (fun q => ne_no q rx_37 rc_0)⟩ dX12_readNumber_31
  · skip
    have n_46 : ¬ x_6 = 3 := h_8
    refine g_aload_n C 0 dX12_readNumber_8 rfl rfl ?_
    refine g_iconst C (v := 1) dX12_readNumber_9 (by decide) ?_
    refine g_callVI C K (c_X12_bad W9 hLx hkx 1 (rg_w rc_1 (by decide) (by decide)) hU) hLx hkx (by decide) rfl v_12_146 rfl ⟨rfl, rfl⟩ ⟨Nat.le_of_ble_eq_true rfl, Nat.le_of_ble_eq_true rfl⟩ (Nat.le_of_ble_eq_true rfl) ⟨Nat.le_of_ble_eq_true rfl, Nat.le_of_ble_eq_true rfl⟩ dX12_readNumber_10 rfl (st := []) (fun x_47 I_48 J_49 h_50 => ?_)
    obtain ⟨hUI_48, hFI_48, hGJ_49, rx_47, fx_47⟩ := h_50
    have hF_51 := fq_tr hF hFI_48 (by decide)
    have hG_52 := fq_tr hG hGJ_49 (by decide)
    obtain ⟨s_54, hs_54⟩ : ∃ z, MTq I_48 J_49 x b_1 = z := ⟨_, rfl⟩
    obtain ⟨s_55, hs_55⟩ : ∃ z, NRq I_48 J_49 x b_3 b_4 = z := ⟨_, rfl⟩
    have c_53 : mBad (1) (s_2) (s_5) = (x_47, s_54, s_55) := by have q := fx_47; simp only [emqx, enqx, hs_2, hs_5, hs_54, hs_55] at q; exact q.symm
    exact g_zret (ty := .boolean) (r := x_47) B K rfl (nar_z (rg_w rx_47 (by decide) (by decide))) ⟨hUI_48, hF_51, hG_52, rg_w rx_47 (by decide) (by decide), (by simp only [mReadNumber, emqx, hs_54, hs_2, enqx, hs_55, hs_5, hx_6, f_7, h_8, c_53, if_true, if_false, mqM_tp, mqM_size, mqM_limit, mqM_to, mqM_frm, mqM_kind, mqM_number, mqM_sign, mqM_word, MT_.w_tp, MT_.w_size, MT_.w_limit, MT_.w_to, MT_.w_frm, MT_.w_kind, MT_.w_number, MT_.w_sign, MT_.w_word, nqM_rd, nqM_rn, nqM_taped, nqM_mfault, nqM_mplace, nqM_told, nqM_hl, nqM_hd, NR_.w_rd, NR_.w_rn, NR_.w_taped, NR_.w_mfault, NR_.w_mplace, NR_.w_told, NR_.w_hl, NR_.w_hd]), ⟨(pg_fq pg_rf hFI_48 hLx hkx (by decide) (by decide)), fun q => ne_no q rx_47 rc_0⟩, (fun q => ne_no q rx_47 rc_0)⟩ dX12_readNumber_13
set_option maxRecDepth 100000 in
set_option maxHeartbeats 8000000 in
theorem c_X12_readNumber_1_9 {l : Launch} {D : va_G} {cy : Nat → ClassId} {L : List Nat} {κ ln : Nat → Nat} {R : Nat → Nat → Option Nat} {I : Nat → Nat → Int32} {J : Nat → Nat → Int64} {ow : Nat → Nat × Nat} (W9 : ∀ a ∈ L, Shp L κ ln R ow a) {x : Nat} (hLx : x ∈ L) (hkx : κ x = 12) (hU : Iw L κ R ow I) : CtI l yX12_readNumber cX12_readNumber 3 (some .boolean) { frames := 2, cells := 0, slots := 0, locals := 45 } D cy L κ ln R I J [.ref x, .int 1, .int 9] (fun r I2 J2 => Iw L κ R ow I2 ∧ Fq L κ ow [1205, 1206, 1207, 1208, 1209, 1210, 1211, 1213] I I2 ∧ Fq L κ ow [1212] J J2 ∧ Rg 0 1 r ∧ ((r, MTf R I2 J2 x, NRf R I2 J2 x) = mReadNumber (1) (9) (MTf R I J x) (NRf R I J x)) ∧ (Pg_ x I I2 ∧ (¬ r = 0 → Ps_ x I I2)) ∧ (¬ r = 0 → Rg 1 9 (I2 x 13))) := by
  refine CtI.of (by decide +kernel) (Nat.le_of_ble_eq_true rfl) ?_
  intro p e s m below meth c B K
  have C := B.1
  have hF : Fq L κ ow [1205, 1206, 1207, 1208, 1209, 1210, 1211, 1213] I I := fq_rf
  have hG : Fq L κ ow [1212] J J := fq_rf
  obtain ⟨b_1, hb_1, hb_1L, hb_1k, hb_1n, hb_1o⟩ := shp_a (W9 x hLx) hkx 1 14 940 rfl (by decide)
  have emqx : ∀ I J, MTf R I J x = MTq I J x b_1 := fun I J => by simp only [MTf, rr_, Option.getD_some, hb_1]
  have wmqx : mqw_ L κ ow x b_1 := ⟨⟨hLx, hb_1L⟩, ⟨(ro_o hkx (by decide)), (ro_a hb_1k (by decide) hb_1o hkx rfl)⟩⟩
  obtain ⟨s_2, hs_2⟩ : ∃ z, MTq I J x b_1 = z := ⟨_, rfl⟩
  obtain ⟨b_3, hb_3, hb_3L, hb_3k, hb_3n, hb_3o⟩ := shp_a (W9 x hLx) hkx 15 14 72 rfl (by decide)
  obtain ⟨b_4, hb_4, hb_4L, hb_4k, hb_4n, hb_4o⟩ := shp_a (W9 x hLx) hkx 20 15 13 rfl (by decide)
  have enqx : ∀ I J, NRf R I J x = NRq I J x b_3 b_4 := fun I J => by simp only [NRf, rr_, Option.getD_some, hb_3, hb_4]
  have wnqx : nqw_ L κ ow x b_3 b_4 := ⟨⟨hLx, hb_3L, hb_4L⟩, ⟨(ro_o hkx (by decide)), (ro_a hb_3k (by decide) hb_3o hkx rfl), (ro_a hb_4k (by decide) hb_4o hkx rfl)⟩⟩
  obtain ⟨s_5, hs_5⟩ : ∃ z, NRq I J x b_3 b_4 = z := ⟨_, rfl⟩
  refine g_lo (is := [0, 1, 2]) (lo2 := [(0, .ref x), (1, .int 1), (2, .int 9)]) rfl ?_
  refine g_aload_n C 0 dX12_readNumber_0 rfl rfl ?_
  obtain ⟨x_6, hx_6, rx_6⟩ := ex_getw (I := I) (a := x) (j := 7) (lo := 0) (hi := 4) hU.1 hLx (ro_o hkx (by decide)) rfl
  have f_7 : s_2.kind = x_6 := (congrArg MT_.kind hs_2).symm.trans hx_6
  refine g_getI C K hLx hkx f_12_104 (v := x_6) hx_6 dX12_readNumber_1 ?_
  refine g_iconst C (v := 3) dX12_readNumber_4 (by decide) ?_
  refine g_icmp_eq C (tgt := 14) dX12_readNumber_5 (by decide) (fun h_8 => ?_) (fun h_8 => ?_)
  · skip
    have r_9 := (⟨(eq_rg (h_8) rc_3).1, (eq_rg (h_8) rc_3).2⟩ : Rg 3 3 x_6)
    refine g_aload_n C 0 dX12_readNumber_14 rfl rfl ?_
    obtain ⟨x_10, hx_10, rx_10⟩ := ex_getw (I := I) (a := x) (j := 8) (lo := (-2147483648)) (hi := 2147483647) hU.1 hLx (ro_o hkx (by decide)) rfl
    have f_11 : s_2.number = x_10 := (congrArg MT_.number hs_2).symm.trans hx_10
    refine g_getI C K hLx hkx f_12_121 (v := x_10) hx_10 dX12_readNumber_15 ?_
    refine g_iload_n C 1 dX12_readNumber_18 rfl rfl ?_
    refine g_iload_n C 2 dX12_readNumber_19 rfl rfl ?_
    refine g_callSI C K (c_X12_isIn W9 x_10 1 9 (rg_w rc_1 (by decide) (by decide)) (rg_w rc_9 (by decide) (by decide)) hU) s_12_149 rfl ⟨rfl, rfl⟩ ⟨Nat.le_of_ble_eq_true rfl, Nat.le_of_ble_eq_true rfl⟩ (Nat.le_of_ble_eq_true rfl) ⟨Nat.le_of_ble_eq_true rfl, Nat.le_of_ble_eq_true rfl⟩ dX12_readNumber_20 rfl (st := []) (fun x_12 I_13 J_14 h_15 => ?_)
    obtain ⟨rfl, rfl, rx_12, fx_12, ex_12⟩ := h_15
    have c_16 : isIn_ (x_10) (1) (9) = x_12 := fx_12.symm
    refine g_if_ne C (tgt := 32) dX12_readNumber_23 (by decide) (fun h_17 => ?_) (fun h_17 => ?_)
    · skip
      have n_18 : ¬ x_12 = 0 := h_17
      have r_19 := ne_lo (lo := 1) n_18 rx_12 rc_0 rfl (by decide)
      have r_20 := le_r (((ex_12.1) n_18)) rc_1 rx_10
      have r_21 := le_l (((ex_12.2) n_18)) r_20 rc_9
      refine g_aload_n C 0 dX12_readNumber_32 rfl rfl ?_
      refine g_aload_n C 0 dX12_readNumber_33 rfl rfl ?_
      refine g_getI C K hLx hkx f_12_121 (v := x_10) hx_10 dX12_readNumber_34 ?_
      refine h_putI C K hLx hkx f_12_153 p_12_13 dX12_readNumber_37 (fun I_22 hI_22 => ?_)
      have hU_23 := iw_put W9 hU hI_22 (ro_o hkx (by decide)) (lo := (-2147483648)) (hi := 2147483647) (rfl) (rg_all _) rfl
      have hF_24 := fq_puto hF hI_22 hkx (by decide) (by decide)
      have hs_25 : MTq I_22 J x b_1 = s_2 := by rw [hI_22]; exact (mq_uIt wmqx (by decide)).trans hs_2
      have hs_26 : NRq I_22 J x b_3 b_4 = (NR_.w_told s_5 (x_10)) := by rw [hI_22]; exact ((nq_told wnqx).trans (congrArg (fun z : NR_ => NR_.w_told z (x_10)) hs_5)).trans rfl
      refine g_aload_n C 0 dX12_readNumber_40 rfl rfl ?_
      refine g_callVV C K (c_X12_go W9 hLx hkx   hU_23) hLx hkx (by decide) rfl v_12_156 rfl ⟨rfl, rfl⟩ ⟨Nat.le_of_ble_eq_true rfl, Nat.le_of_ble_eq_true rfl⟩ (Nat.le_of_ble_eq_true rfl) ⟨Nat.le_of_ble_eq_true rfl, Nat.le_of_ble_eq_true rfl⟩ dX12_readNumber_41 rfl (st := []) (fun I_28 J_29 h_30 => ?_)
      obtain ⟨hUI_28, hFI_28, hGJ_29, fx_27, ex_27⟩ := h_30
      have hF_31 := fq_tr hF_24 hFI_28 (by decide)
      have hG_32 := fq_tr hG hGJ_29 (by decide)
      obtain ⟨s_34, hs_34⟩ : ∃ z, MTq I_28 J_29 x b_1 = z := ⟨_, rfl⟩
      have c_33 : mGo (s_2) = s_34 := by have q := fx_27; simp only [emqx, hs_25, hs_34] at q; exact q.symm
      have hs_35 : NRq I_28 J_29 x b_3 b_4 = (NR_.w_told s_5 (x_10)) := (nq_fq wnqx hFI_28 hGJ_29 (by decide) (by decide)).trans hs_26
      refine g_iconst C (v := 1) dX12_readNumber_44 (by decide) ?_
      exact g_zret (ty := .boolean) (r := 1) B K rfl (rfl) ⟨hUI_28, hF_31, hG_32, rg_w rc_1 (by decide) (by decide), (by simp only [mReadNumber, emqx, hs_34, hs_2, enqx, hs_35, hs_5, hx_6, f_7, (eq_true h_8), hx_10, f_11, c_16, h_17, c_33, if_true, if_false, mqM_tp, mqM_size, mqM_limit, mqM_to, mqM_frm, mqM_kind, mqM_number, mqM_sign, mqM_word, MT_.w_tp, MT_.w_size, MT_.w_limit, MT_.w_to, MT_.w_frm, MT_.w_kind, MT_.w_number, MT_.w_sign, MT_.w_word, nqM_rd, nqM_rn, nqM_taped, nqM_mfault, nqM_mplace, nqM_told, nqM_hl, nqM_hd, NR_.w_rd, NR_.w_rn, NR_.w_taped, NR_.w_mfault, NR_.w_mplace, NR_.w_told, NR_.w_hl, NR_.w_hd]), ⟨(pg_s (ps_t2 (pg_u pg_rf hI_22 (Or.inr (by decide)) (Or.inr (by decide))) ex_27)), fun _ => (ps_t2 (pg_u pg_rf hI_22 (Or.inr (by decide)) (Or.inr (by decide))) ex_27)⟩, (fun _ => eq_rg (fq_at hFI_28 hLx hkx (by decide) (by decide) (kp_s hI_22)) (r_21))⟩ dX12_readNumber_45
    · skip
      have r_36 := (⟨(rx_12).1, (eq_rg (h_17) rc_0).2⟩ : Rg 0 0 x_12)
      refine g_aload_n C 0 dX12_readNumber_26 rfl rfl ?_
      refine g_iconst C (v := 2) dX12_readNumber_27 (by decide) ?_
      refine g_callVI C K (c_X12_bad W9 hLx hkx 2 (rg_w rc_2 (by decide) (by decide)) hU) hLx hkx (by decide) rfl v_12_146 rfl ⟨rfl, rfl⟩ ⟨Nat.le_of_ble_eq_true rfl, Nat.le_of_ble_eq_true rfl⟩ (Nat.le_of_ble_eq_true rfl) ⟨Nat.le_of_ble_eq_true rfl, Nat.le_of_ble_eq_true rfl⟩ dX12_readNumber_28 rfl (st := []) (fun x_37 I_38 J_39 h_40 => ?_)
      obtain ⟨hUI_38, hFI_38, hGJ_39, rx_37, fx_37⟩ := h_40
      have hF_41 := fq_tr hF hFI_38 (by decide)
      have hG_42 := fq_tr hG hGJ_39 (by decide)
      obtain ⟨s_44, hs_44⟩ : ∃ z, MTq I_38 J_39 x b_1 = z := ⟨_, rfl⟩
      obtain ⟨s_45, hs_45⟩ : ∃ z, NRq I_38 J_39 x b_3 b_4 = z := ⟨_, rfl⟩
      have c_43 : mBad (2) (s_2) (s_5) = (x_37, s_44, s_45) := by have q := fx_37; simp only [emqx, enqx, hs_2, hs_5, hs_44, hs_45] at q; exact q.symm
      exact g_zret (ty := .boolean) (r := x_37) B K rfl (nar_z (rg_w rx_37 (by decide) (by decide))) ⟨hUI_38, hF_41, hG_42, rg_w rx_37 (by decide) (by decide), (by simp only [mReadNumber, emqx, hs_44, hs_2, enqx, hs_45, hs_5, hx_6, f_7, (eq_true h_8), hx_10, f_11, c_16, (eq_true h_17), c_43, if_true, if_false, mqM_tp, mqM_size, mqM_limit, mqM_to, mqM_frm, mqM_kind, mqM_number, mqM_sign, mqM_word, MT_.w_tp, MT_.w_size, MT_.w_limit, MT_.w_to, MT_.w_frm, MT_.w_kind, MT_.w_number, MT_.w_sign, MT_.w_word, nqM_rd, nqM_rn, nqM_taped, nqM_mfault, nqM_mplace, nqM_told, nqM_hl, nqM_hd, NR_.w_rd, NR_.w_rn, NR_.w_taped, NR_.w_mfault, NR_.w_mplace, NR_.w_told, NR_.w_hl, NR_.w_hd]), ⟨(pg_fq pg_rf hFI_38 hLx hkx (by decide) (by decide)), fun q => ne_no q rx_37 rc_0⟩, (fun q => ne_no q rx_37 rc_0)⟩ dX12_readNumber_31
  · skip
    have n_46 : ¬ x_6 = 3 := h_8
    refine g_aload_n C 0 dX12_readNumber_8 rfl rfl ?_
    refine g_iconst C (v := 1) dX12_readNumber_9 (by decide) ?_
    refine g_callVI C K (c_X12_bad W9 hLx hkx 1 (rg_w rc_1 (by decide) (by decide)) hU) hLx hkx (by decide) rfl v_12_146 rfl ⟨rfl, rfl⟩ ⟨Nat.le_of_ble_eq_true rfl, Nat.le_of_ble_eq_true rfl⟩ (Nat.le_of_ble_eq_true rfl) ⟨Nat.le_of_ble_eq_true rfl, Nat.le_of_ble_eq_true rfl⟩ dX12_readNumber_10 rfl (st := []) (fun x_47 I_48 J_49 h_50 => ?_)
    obtain ⟨hUI_48, hFI_48, hGJ_49, rx_47, fx_47⟩ := h_50
    have hF_51 := fq_tr hF hFI_48 (by decide)
    have hG_52 := fq_tr hG hGJ_49 (by decide)
    obtain ⟨s_54, hs_54⟩ : ∃ z, MTq I_48 J_49 x b_1 = z := ⟨_, rfl⟩
    obtain ⟨s_55, hs_55⟩ : ∃ z, NRq I_48 J_49 x b_3 b_4 = z := ⟨_, rfl⟩
    have c_53 : mBad (1) (s_2) (s_5) = (x_47, s_54, s_55) := by have q := fx_47; simp only [emqx, enqx, hs_2, hs_5, hs_54, hs_55] at q; exact q.symm
    exact g_zret (ty := .boolean) (r := x_47) B K rfl (nar_z (rg_w rx_47 (by decide) (by decide))) ⟨hUI_48, hF_51, hG_52, rg_w rx_47 (by decide) (by decide), (by simp only [mReadNumber, emqx, hs_54, hs_2, enqx, hs_55, hs_5, hx_6, f_7, h_8, c_53, if_true, if_false, mqM_tp, mqM_size, mqM_limit, mqM_to, mqM_frm, mqM_kind, mqM_number, mqM_sign, mqM_word, MT_.w_tp, MT_.w_size, MT_.w_limit, MT_.w_to, MT_.w_frm, MT_.w_kind, MT_.w_number, MT_.w_sign, MT_.w_word, nqM_rd, nqM_rn, nqM_taped, nqM_mfault, nqM_mplace, nqM_told, nqM_hl, nqM_hd, NR_.w_rd, NR_.w_rn, NR_.w_taped, NR_.w_mfault, NR_.w_mplace, NR_.w_told, NR_.w_hl, NR_.w_hd]), ⟨(pg_fq pg_rf hFI_48 hLx hkx (by decide) (by decide)), fun q => ne_no q rx_47 rc_0⟩, (fun q => ne_no q rx_47 rc_0)⟩ dX12_readNumber_13
set_option maxRecDepth 100000 in
set_option maxHeartbeats 8000000 in
theorem c_X12_readDish {l : Launch} {D : va_G} {cy : Nat → ClassId} {L : List Nat} {κ ln : Nat → Nat} {R : Nat → Nat → Option Nat} {I : Nat → Nat → Int32} {J : Nat → Nat → Int64} {ow : Nat → Nat × Nat} (W9 : ∀ a ∈ L, Shp L κ ln R ow a) {x : Nat} (hLx : x ∈ L) (hkx : κ x = 12) (hU : Iw L κ R ow I) : CtI l yX12_readDish cX12_readDish 2 (some .boolean) { frames := 4, cells := 0, slots := 0, locals := 90 } D cy L κ ln R I J [.ref x] (fun r I2 J2 => Iw L κ R ow I2 ∧ Fq L κ ow [1205, 1206, 1207, 1208, 1209, 1210, 1211, 1213, 83500] I I2 ∧ Fq L κ ow [1212, 84000] J J2 ∧ Rg 0 1 r ∧ ((r, MTf R I2 J2 x, NRf R I2 J2 x) = mReadDish (MTf R I J x) (NRf R I J x)) ∧ (Pg_ x I I2 ∧ (¬ r = 0 → Ps_ x I I2))) := by
  refine CtI.of (by decide +kernel) (Nat.le_of_ble_eq_true rfl) ?_
  intro p e s m below meth c B K
  have C := B.1
  have hF : Fq L κ ow [1205, 1206, 1207, 1208, 1209, 1210, 1211, 1213, 83500] I I := fq_rf
  have hG : Fq L κ ow [1212, 84000] J J := fq_rf
  obtain ⟨b_1, hb_1, hb_1L, hb_1k, hb_1n, hb_1o⟩ := shp_a (W9 x hLx) hkx 15 14 72 rfl (by decide)
  obtain ⟨b_2, hb_2, hb_2L, hb_2k, hb_2n, hb_2o⟩ := shp_a (W9 x hLx) hkx 1 14 940 rfl (by decide)
  have emqx : ∀ I J, MTf R I J x = MTq I J x b_2 := fun I J => by simp only [MTf, rr_, Option.getD_some, hb_2]
  have wmqx : mqw_ L κ ow x b_2 := ⟨⟨hLx, hb_2L⟩, ⟨(ro_o hkx (by decide)), (ro_a hb_2k (by decide) hb_2o hkx rfl)⟩⟩
  obtain ⟨s_3, hs_3⟩ : ∃ z, MTq I J x b_2 = z := ⟨_, rfl⟩
  obtain ⟨b_4, hb_4, hb_4L, hb_4k, hb_4n, hb_4o⟩ := shp_a (W9 x hLx) hkx 20 15 13 rfl (by decide)
  have enqx : ∀ I J, NRf R I J x = NRq I J x b_1 b_4 := fun I J => by simp only [NRf, rr_, Option.getD_some, hb_1, hb_4]
  have wnqx : nqw_ L κ ow x b_1 b_4 := ⟨⟨hLx, hb_1L, hb_4L⟩, ⟨(ro_o hkx (by decide)), (ro_a hb_1k (by decide) hb_1o hkx rfl), (ro_a hb_4k (by decide) hb_4o hkx rfl)⟩⟩
  obtain ⟨s_5, hs_5⟩ : ∃ z, NRq I J x b_1 b_4 = z := ⟨_, rfl⟩
  refine g_lo (is := [0]) (lo2 := [(0, .ref x)]) rfl ?_
  refine g_aload_n C 0 dX12_readDish_0 rfl rfl ?_
  refine g_iconst C (v := 1) dX12_readDish_1 (by decide) ?_
  refine g_bipush C (v := 6) dX12_readDish_2 (by decide) ?_
  refine g_callVI C K (c_X12_readFirst_1_6 W9 hLx hkx   hU) hLx hkx (by decide) rfl v_12_178 rfl ⟨rfl, rfl⟩ ⟨Nat.le_of_ble_eq_true rfl, Nat.le_of_ble_eq_true rfl⟩ (Nat.le_of_ble_eq_true rfl) ⟨Nat.le_of_ble_eq_true rfl, Nat.le_of_ble_eq_true rfl⟩ dX12_readDish_4 rfl (st := []) (fun x_6 I_7 J_8 h_9 => ?_)
  obtain ⟨hUI_7, hFI_7, hGJ_8, rx_6, fx_6, ex_6⟩ := h_9
  have hF_10 := fq_tr hF hFI_7 (by decide)
  have hG_11 := fq_tr hG hGJ_8 (by decide)
  obtain ⟨s_13, hs_13⟩ : ∃ z, MTq I_7 J_8 x b_2 = z := ⟨_, rfl⟩
  obtain ⟨s_14, hs_14⟩ : ∃ z, NRq I_7 J_8 x b_1 b_4 = z := ⟨_, rfl⟩
  have c_12 : mReadFirst (1) (6) (s_3) (s_5) = (x_6, s_13, s_14) := by have q := fx_6; simp only [emqx, enqx, hs_3, hs_5, hs_13, hs_14] at q; exact q.symm
  obtain ⟨x_15, hx_15, rx_15⟩ := ex_any (z0 := I_7 b_1 1)
  have q_16 := hx_15
  refine g_if_ne C (tgt := 12) dX12_readDish_7 (by decide) (fun h_17 => ?_) (fun h_17 => ?_)
  · skip
    have n_18 : ¬ x_6 = 0 := h_17
    have r_19 := ne_lo (lo := 1) n_18 rx_6 rc_0 rfl (by decide)
    have r_20 := rg_i rx_15 (eq_rg q_16.symm ((ex_6.2) n_18 _ hb_1)) (lo := 0) (hi := 5) (by decide) (by decide)
    refine g_aload_n C 0 dX12_readDish_12 rfl rfl ?_
    refine g_getR C K hLx hkx f_12_16 hb_1 dX12_readDish_13 ?_
    refine g_iconst C (v := 1) dX12_readDish_16 (by decide) ?_
    refine h_iald C K hb_1L hb_1k (v := x_15) (1) (by decide) (by decide) (by rw [hb_1n]; decide) hx_15 dX12_readDish_17 ?_
    have f_22 : s_14.rd (1) = x_15 := (congrFun (congrArg NR_.rd hs_14) _).symm.trans hx_15
    refine g_istore_n C dX12_readDish_18 rfl (by decide) (lo2 := [(1, .int x_15), (0, .ref x)]) rfl ?_
    refine g_aload_n C 1 dX12_readDish_19 rfl rfl ?_
    refine g_bipush C (v := 7) dX12_readDish_20 (by decide) ?_
    refine g_iload_n C 0 dX12_readDish_22 rfl rfl ?_
    obtain ⟨x_23, hx_23, rx_23, tx_23⟩ := ex_add 7 12 rc_7 r_20 (by decide) (by decide) (by decide) (by decide)
    refine g_iadd C (v := x_23) dX12_readDish_23 hx_23 ?_
    refine g_callVI C K (c_X12_readNew W9 hLx hkx x_23 (rg_w rx_23 (by decide) (by decide)) hUI_7) hLx hkx (by decide) rfl v_12_181 rfl ⟨rfl, rfl⟩ ⟨Nat.le_of_ble_eq_true rfl, Nat.le_of_ble_eq_true rfl⟩ (Nat.le_of_ble_eq_true rfl) ⟨Nat.le_of_ble_eq_true rfl, Nat.le_of_ble_eq_true rfl⟩ dX12_readDish_24 rfl (st := []) (fun x_24 I_25 J_26 h_27 => ?_)
    obtain ⟨hUI_25, hFI_25, hGJ_26, rx_24, fx_24, ex_24⟩ := h_27
    have hF_28 := fq_tr hF_10 hFI_25 (by decide)
    have hG_29 := fq_tr hG_11 hGJ_26 (by decide)
    obtain ⟨s_31, hs_31⟩ : ∃ z, MTq I_25 J_26 x b_2 = z := ⟨_, rfl⟩
    obtain ⟨s_32, hs_32⟩ : ∃ z, NRq I_25 J_26 x b_1 b_4 = z := ⟨_, rfl⟩
    have c_30 : mReadNew (x_23) (s_13) (s_14) = (x_24, s_31, s_32) := by have q := fx_24; simp only [emqx, enqx, hs_13, hs_14, hs_31, hs_32] at q; exact q.symm
    refine g_if_eq C (tgt := 48) dX12_readDish_27 (by decide) (fun h_33 => ?_) (fun h_33 => ?_)
    · skip
      have r_34 := (⟨(rx_24).1, (eq_rg (h_33) rc_0).2⟩ : Rg 0 0 x_24)
      refine g_iconst C (v := 0) dX12_readDish_48 (by decide) ?_
      exact g_zret (ty := .boolean) (r := 0) B K rfl (rfl) ⟨hUI_25, hF_28, hG_29, rg_w rc_0 (by decide) (by decide), (by simp only [mReadDish, mInc, emqx, hs_31, hs_3, enqx, hs_32, hs_5, c_12, hx_15, h_17, f_22, hx_23, c_30, (eq_true h_33), if_true, if_false, mqM_tp, mqM_size, mqM_limit, mqM_to, mqM_frm, mqM_kind, mqM_number, mqM_sign, mqM_word, MT_.w_tp, MT_.w_size, MT_.w_limit, MT_.w_to, MT_.w_frm, MT_.w_kind, MT_.w_number, MT_.w_sign, MT_.w_word, nqM_rd, nqM_rn, nqM_taped, nqM_mfault, nqM_mplace, nqM_told, nqM_hl, nqM_hd, NR_.w_rd, NR_.w_rn, NR_.w_taped, NR_.w_mfault, NR_.w_mplace, NR_.w_told, NR_.w_hl, NR_.w_hd]), ⟨(pg_t (pg_t pg_rf ex_6.1.1) ex_24.1), fun q => absurd rfl q⟩⟩ dX12_readDish_49
    · skip
      have n_35 : ¬ x_24 = 0 := h_33
      have r_36 := ne_lo (lo := 1) n_35 rx_24 rc_0 rfl (by decide)
      refine g_aload_n C 1 dX12_readDish_30 rfl rfl ?_
      refine g_bipush C (v := 18) dX12_readDish_31 (by decide) ?_
      refine g_iload_n C 0 dX12_readDish_33 rfl rfl ?_
      obtain ⟨x_37, hx_37, rx_37, tx_37⟩ := ex_add 18 23 rc_18 r_20 (by decide) (by decide) (by decide) (by decide)
      refine g_iadd C (v := x_37) dX12_readDish_34 hx_37 ?_
      refine g_aload_n C 1 dX12_readDish_35 rfl rfl ?_
      refine g_iconst C (v := 0) dX12_readDish_36 (by decide) ?_
      refine g_bipush C (v := 99) dX12_readDish_37 (by decide) ?_
      obtain ⟨x_38, hx_38, rx_38⟩ := ex_getw (I := I_25) (a := x) (j := 13) (lo := (-2147483648)) (hi := 2147483647) hUI_25.1 hLx (ro_o hkx (by decide)) rfl
      have f_39 : s_32.told = x_38 := (congrArg NR_.told hs_32).symm.trans hx_38
      refine g_callVI C K (c_X12_readNumber_0_99 W9 hLx hkx   hUI_25) hLx hkx (by decide) rfl v_12_184 rfl ⟨rfl, rfl⟩ ⟨Nat.le_of_ble_eq_true rfl, Nat.le_of_ble_eq_true rfl⟩ (Nat.le_of_ble_eq_true rfl) ⟨Nat.le_of_ble_eq_true rfl, Nat.le_of_ble_eq_true rfl⟩ dX12_readDish_39 rfl (st := [.int x_37, .ref x]) (fun x_40 I_41 J_42 h_43 => ?_)
      obtain ⟨hUI_41, hFI_41, hGJ_42, rx_40, fx_40, ex_40⟩ := h_43
      have hF_44 := fq_tr hF_28 hFI_41 (by decide)
      have hG_45 := fq_tr hG_29 hGJ_42 (by decide)
      obtain ⟨s_47, hs_47⟩ : ∃ z, MTq I_41 J_42 x b_2 = z := ⟨_, rfl⟩
      obtain ⟨s_48, hs_48⟩ : ∃ z, NRq I_41 J_42 x b_1 b_4 = z := ⟨_, rfl⟩
      have c_46 : mReadNumber (0) (99) (s_31) (s_32) = (x_40, s_47, s_48) := by have q := fx_40; simp only [emqx, enqx, hs_31, hs_32, hs_47, hs_48] at q; exact q.symm
      obtain ⟨x_49, hx_49, rx_49⟩ := ex_getw (I := I_41) (a := x) (j := 13) (lo := (-2147483648)) (hi := 2147483647) hUI_41.1 hLx (ro_o hkx (by decide)) rfl
      have f_50 : s_48.told = x_49 := (congrArg NR_.told hs_48).symm.trans hx_49
      have q_51 := hx_49
      refine g_callVI C K (c_X12_put_18_23 W9 hLx hkx x_37 x_40 (rx_37) (rx_40) hUI_41  (fun hq => by have n_52 : ¬ x_40 = 0 := hq; have r_53 := ne_lo (lo := 1) n_52 rx_40 rc_0 rfl (by decide); have r_54 := rg_i rx_49 (eq_rg q_51.symm ((ex_40.2) n_52)) (lo := 0) (hi := 99) (by decide) (by decide); exact eq_rg hx_49 (r_54))) hLx hkx (by decide) rfl v_12_187 rfl ⟨rfl, rfl⟩ ⟨Nat.le_of_ble_eq_true rfl, Nat.le_of_ble_eq_true rfl⟩ (Nat.le_of_ble_eq_true rfl) ⟨Nat.le_of_ble_eq_true rfl, Nat.le_of_ble_eq_true rfl⟩ dX12_readDish_42 rfl (st := []) (fun x_55 I_56 J_57 h_58 => ?_)
      obtain ⟨hUI_56, hFI_56, hGJ_57, rx_55, fx_55, ex_55⟩ := h_58
      have hF_59 := fq_tr hF_44 hFI_56 (by decide)
      have hG_60 := fq_tr hG_45 hGJ_57 (by decide)
      obtain ⟨s_62, hs_62⟩ : ∃ z, NRq I_56 J_57 x b_1 b_4 = z := ⟨_, rfl⟩
      have c_61 : mPut (x_37) (x_40) (s_48) = (x_55, s_62) := by have q := fx_55; simp only [enqx, hs_48, hs_62] at q; exact q.symm
      have hs_63 : MTq I_56 J_57 x b_2 = s_47 := (mq_fq wmqx hFI_56 hGJ_57 (by decide) (by decide)).trans hs_47
      have q_64 := ((ex_55.2 _ hb_1).2).trans (fq_ar hFI_41 hb_1L (ro_a hb_1k (by decide) hb_1o hkx rfl) (by decide) (by decide) (fq_ar hFI_25 hb_1L (ro_a hb_1k (by decide) hb_1o hkx rfl) (by decide) (by decide) hx_15))
      refine g_if_ne C (tgt := 50) dX12_readDish_45 (by decide) (fun h_65 => ?_) (fun h_65 => ?_)
      · skip
        have n_66 : ¬ x_55 = 0 := h_65
        have r_67 := ne_lo (lo := 1) n_66 rx_55 rc_0 rfl (by decide)
        have n_68 : ¬ x_40 = 0 := (fun q => n_66 (Eq.trans ex_55.1 q))
        have r_69 := ne_lo (lo := 1) n_68 rx_40 rc_0 rfl (by decide)
        have r_70 := rg_i rx_49 (eq_rg q_51.symm ((ex_40.2) n_68)) (lo := 0) (hi := 99) (by decide) (by decide)
        refine g_aload_n C 1 dX12_readDish_50 rfl rfl ?_
        refine g_iconst C (v := 2) dX12_readDish_51 (by decide) ?_
        refine g_callVI C K (c_X12_isWord W9 hLx hkx 2 (rg_w rc_2 (by decide) (by decide)) hUI_56) hLx hkx (by decide) rfl v_12_191 rfl ⟨rfl, rfl⟩ ⟨Nat.le_of_ble_eq_true rfl, Nat.le_of_ble_eq_true rfl⟩ (Nat.le_of_ble_eq_true rfl) ⟨Nat.le_of_ble_eq_true rfl, Nat.le_of_ble_eq_true rfl⟩ dX12_readDish_52 rfl (st := []) (fun x_71 I_72 J_73 h_74 => ?_)
        obtain ⟨rfl, rfl, rx_71, fx_71⟩ := h_74
        have c_75 : mIsWord (2) (s_47) = x_71 := by have q := fx_71; simp only [emqx, hs_63] at q; exact q.symm
        refine g_if_eq C (tgt := 82) dX12_readDish_55 (by decide) (fun h_76 => ?_) (fun h_76 => ?_)
        · skip
          have r_77 := (⟨(rx_71).1, (eq_rg (h_76) rc_0).2⟩ : Rg 0 0 x_71)
          refine g_aload_n C 1 dX12_readDish_82 rfl rfl ?_
          refine g_getR C K hLx hkx f_12_16 hb_1 dX12_readDish_83 ?_
          refine g_iconst C (v := 1) dX12_readDish_86 (by decide) ?_
          refine g_dup2 C dX12_readDish_87 rfl rfl ?_
          refine h_iald C K hb_1L hb_1k (v := x_15) (1) (by decide) (by decide) (by rw [hb_1n]; decide) q_64 dX12_readDish_88 ?_
          have f_79 : s_62.rd (1) = x_15 := (congrFun (congrArg NR_.rd hs_62) _).symm.trans q_64
          refine g_iconst C (v := 1) dX12_readDish_89 (by decide) ?_
          obtain ⟨x_80, hx_80, rx_80, tx_80⟩ := ex_add 1 6 r_20 rc_1 (by decide) (by decide) (by decide) (by decide)
          refine g_iadd C (v := x_80) dX12_readDish_90 hx_80 ?_
          refine h_iast C K hb_1L hb_1k (1) (by decide) (by decide) (by rw [hb_1n]; decide) dX12_readDish_91 (fun I_81 hI_81 => ?_)
          have hU_82 := iw_put W9 hUI_56 hI_81 (ro_a hb_1k (by decide) hb_1o hkx rfl) (lo := 0) (hi := 6) (by decide) (rg_w rx_80 (by decide) (by decide)) rfl
          have hF_83 := fq_puta hF_59 hI_81 (ro_a hb_1k (by decide) hb_1o hkx rfl) (by decide) (by decide)
          have hs_84 : MTq I_81 J_57 x b_2 = s_47 := by rw [hI_81]; exact (mq_oI wmqx (ro_a hb_1k (by decide) hb_1o hkx rfl) (by decide)).trans hs_63
          have hs_85 : NRq I_81 J_57 x b_1 b_4 = (NR_.w_rd s_62 (up1 (s_62.rd) (1) (x_80))) := by rw [hI_81]; exact ((nq_rd wnqx).trans (congrArg (fun z : NR_ => NR_.w_rd z (up1 (z.rd) (1) (x_80))) hs_62)).trans rfl
          refine g_iconst C (v := 1) dX12_readDish_92 (by decide) ?_
          exact g_zret (ty := .boolean) (r := 1) B K rfl (rfl) ⟨hU_82, hF_83, hG_60, rg_w rc_1 (by decide) (by decide), (by simp only [mReadDish, mInc, emqx, hs_84, hs_3, enqx, hs_85, hs_5, c_12, hx_15, h_17, f_22, hx_23, c_30, h_33, hx_37, hx_38, f_39, c_46, hx_49, f_50, c_61, h_65, c_75, (eq_true h_76), f_79, hx_80, if_true, if_false, mqM_tp, mqM_size, mqM_limit, mqM_to, mqM_frm, mqM_kind, mqM_number, mqM_sign, mqM_word, MT_.w_tp, MT_.w_size, MT_.w_limit, MT_.w_to, MT_.w_frm, MT_.w_kind, MT_.w_number, MT_.w_sign, MT_.w_word, nqM_rd, nqM_rn, nqM_taped, nqM_mfault, nqM_mplace, nqM_told, nqM_hl, nqM_hd, NR_.w_rd, NR_.w_rn, NR_.w_taped, NR_.w_mfault, NR_.w_mplace, NR_.w_told, NR_.w_hl, NR_.w_hd]), ⟨(pg_u (pg_fq (pg_t (pg_t (pg_t pg_rf ex_6.1.1) ex_24.1) ex_40.1.1) hFI_56 hLx hkx (by decide) (by decide)) hI_81 (Or.inl (kn_k hkx hb_1k (by decide))) (Or.inl (kn_k hkx hb_1k (by decide)))), fun _ => (ps_u (ps_fq (ps_t2 (pg_t (pg_t pg_rf ex_6.1.1) ex_24.1) (ex_40.1.2 n_68)) hFI_56 hLx hkx (by decide) (by decide)) hI_81 (Or.inl (kn_k hkx hb_1k (by decide))) (Or.inl (kn_k hkx hb_1k (by decide))))⟩⟩ dX12_readDish_93
        · skip
          have n_86 : ¬ x_71 = 0 := h_76
          have r_87 := ne_lo (lo := 1) n_86 rx_71 rc_0 rfl (by decide)
          refine g_aload_n C 1 dX12_readDish_58 rfl rfl ?_
          refine g_callVV C K (c_X12_go W9 hLx hkx   hUI_56) hLx hkx (by decide) rfl v_12_156 rfl ⟨rfl, rfl⟩ ⟨Nat.le_of_ble_eq_true rfl, Nat.le_of_ble_eq_true rfl⟩ (Nat.le_of_ble_eq_true rfl) ⟨Nat.le_of_ble_eq_true rfl, Nat.le_of_ble_eq_true rfl⟩ dX12_readDish_59 rfl (st := []) (fun I_89 J_90 h_91 => ?_)
          obtain ⟨hUI_89, hFI_89, hGJ_90, fx_88, ex_88⟩ := h_91
          have hF_92 := fq_tr hF_59 hFI_89 (by decide)
          have hG_93 := fq_tr hG_60 hGJ_90 (by decide)
          obtain ⟨s_95, hs_95⟩ : ∃ z, MTq I_89 J_90 x b_2 = z := ⟨_, rfl⟩
          have c_94 : mGo (s_47) = s_95 := by have q := fx_88; simp only [emqx, hs_63, hs_95] at q; exact q.symm
          have hs_96 : NRq I_89 J_90 x b_1 b_4 = s_62 := (nq_fq wnqx hFI_89 hGJ_90 (by decide) (by decide)).trans hs_62
          refine g_aload_n C 1 dX12_readDish_62 rfl rfl ?_
          refine g_bipush C (v := 24) dX12_readDish_63 (by decide) ?_
          refine g_iload_n C 0 dX12_readDish_65 rfl rfl ?_
          obtain ⟨x_97, hx_97, rx_97, tx_97⟩ := ex_add 24 29 rc_24 r_20 (by decide) (by decide) (by decide) (by decide)
          refine g_iadd C (v := x_97) dX12_readDish_66 hx_97 ?_
          refine g_aload_n C 1 dX12_readDish_67 rfl rfl ?_
          refine g_iconst C (v := 1) dX12_readDish_68 (by decide) ?_
          refine g_bipush C (v := 9) dX12_readDish_69 (by decide) ?_
          have f_98 : s_62.told = x_49 := (congrArg NR_.told hs_96).symm.trans (fq_at hFI_89 hLx hkx (by decide) (by decide) (fq_at hFI_56 hLx hkx (by decide) (by decide) hx_49))
          refine g_callVI C K (c_X12_readNumber_1_9 W9 hLx hkx   hUI_89) hLx hkx (by decide) rfl v_12_184 rfl ⟨rfl, rfl⟩ ⟨Nat.le_of_ble_eq_true rfl, Nat.le_of_ble_eq_true rfl⟩ (Nat.le_of_ble_eq_true rfl) ⟨Nat.le_of_ble_eq_true rfl, Nat.le_of_ble_eq_true rfl⟩ dX12_readDish_71 rfl (st := [.int x_97, .ref x]) (fun x_99 I_100 J_101 h_102 => ?_)
          obtain ⟨hUI_100, hFI_100, hGJ_101, rx_99, fx_99, ex_99⟩ := h_102
          have hF_103 := fq_tr hF_92 hFI_100 (by decide)
          have hG_104 := fq_tr hG_93 hGJ_101 (by decide)
          obtain ⟨s_106, hs_106⟩ : ∃ z, MTq I_100 J_101 x b_2 = z := ⟨_, rfl⟩
          obtain ⟨s_107, hs_107⟩ : ∃ z, NRq I_100 J_101 x b_1 b_4 = z := ⟨_, rfl⟩
          have c_105 : mReadNumber (1) (9) (s_95) (s_62) = (x_99, s_106, s_107) := by have q := fx_99; simp only [emqx, enqx, hs_95, hs_96, hs_106, hs_107] at q; exact q.symm
          obtain ⟨x_108, hx_108, rx_108⟩ := ex_getw (I := I_100) (a := x) (j := 13) (lo := (-2147483648)) (hi := 2147483647) hUI_100.1 hLx (ro_o hkx (by decide)) rfl
          have f_109 : s_107.told = x_108 := (congrArg NR_.told hs_107).symm.trans hx_108
          have q_110 := hx_108
          refine g_callVI C K (c_X12_put_24_29 W9 hLx hkx x_97 x_99 (rx_97) (rx_99) hUI_100  (fun hq => by have n_111 : ¬ x_99 = 0 := hq; have r_112 := ne_lo (lo := 1) n_111 rx_99 rc_0 rfl (by decide); have r_113 := rg_i rx_108 (eq_rg q_110.symm ((ex_99.2) n_111)) (lo := 1) (hi := 9) (by decide) (by decide); exact eq_rg hx_108 (rg_w r_113 (by decide) (by decide)))) hLx hkx (by decide) rfl v_12_187 rfl ⟨rfl, rfl⟩ ⟨Nat.le_of_ble_eq_true rfl, Nat.le_of_ble_eq_true rfl⟩ (Nat.le_of_ble_eq_true rfl) ⟨Nat.le_of_ble_eq_true rfl, Nat.le_of_ble_eq_true rfl⟩ dX12_readDish_74 rfl (st := []) (fun x_114 I_115 J_116 h_117 => ?_)
          obtain ⟨hUI_115, hFI_115, hGJ_116, rx_114, fx_114, ex_114⟩ := h_117
          have hF_118 := fq_tr hF_103 hFI_115 (by decide)
          have hG_119 := fq_tr hG_104 hGJ_116 (by decide)
          obtain ⟨s_121, hs_121⟩ : ∃ z, NRq I_115 J_116 x b_1 b_4 = z := ⟨_, rfl⟩
          have c_120 : mPut (x_97) (x_99) (s_107) = (x_114, s_121) := by have q := fx_114; simp only [enqx, hs_107, hs_121] at q; exact q.symm
          have hs_122 : MTq I_115 J_116 x b_2 = s_106 := (mq_fq wmqx hFI_115 hGJ_116 (by decide) (by decide)).trans hs_106
          have q_123 := ((ex_114.2 _ hb_1).2).trans (fq_ar hFI_100 hb_1L (ro_a hb_1k (by decide) hb_1o hkx rfl) (by decide) (by decide) (fq_ar hFI_89 hb_1L (ro_a hb_1k (by decide) hb_1o hkx rfl) (by decide) (by decide) q_64))
          refine g_if_ne C (tgt := 82) dX12_readDish_77 (by decide) (fun h_124 => ?_) (fun h_124 => ?_)
          · skip
            have n_125 : ¬ x_114 = 0 := h_124
            have r_126 := ne_lo (lo := 1) n_125 rx_114 rc_0 rfl (by decide)
            have n_127 : ¬ x_99 = 0 := (fun q => n_125 (Eq.trans ex_114.1 q))
            have r_128 := ne_lo (lo := 1) n_127 rx_99 rc_0 rfl (by decide)
            have r_129 := rg_i rx_108 (eq_rg q_110.symm ((ex_99.2) n_127)) (lo := 1) (hi := 9) (by decide) (by decide)
            refine g_aload_n C 1 dX12_readDish_82 rfl rfl ?_
            refine g_getR C K hLx hkx f_12_16 hb_1 dX12_readDish_83 ?_
            refine g_iconst C (v := 1) dX12_readDish_86 (by decide) ?_
            refine g_dup2 C dX12_readDish_87 rfl rfl ?_
            refine h_iald C K hb_1L hb_1k (v := x_15) (1) (by decide) (by decide) (by rw [hb_1n]; decide) q_123 dX12_readDish_88 ?_
            have f_131 : s_121.rd (1) = x_15 := (congrFun (congrArg NR_.rd hs_121) _).symm.trans q_123
            refine g_iconst C (v := 1) dX12_readDish_89 (by decide) ?_
            obtain ⟨x_132, hx_132, rx_132, tx_132⟩ := ex_add 1 6 r_20 rc_1 (by decide) (by decide) (by decide) (by decide)
            refine g_iadd C (v := x_132) dX12_readDish_90 hx_132 ?_
            refine h_iast C K hb_1L hb_1k (1) (by decide) (by decide) (by rw [hb_1n]; decide) dX12_readDish_91 (fun I_133 hI_133 => ?_)
            have hU_134 := iw_put W9 hUI_115 hI_133 (ro_a hb_1k (by decide) hb_1o hkx rfl) (lo := 0) (hi := 6) (by decide) (rg_w rx_132 (by decide) (by decide)) rfl
            have hF_135 := fq_puta hF_118 hI_133 (ro_a hb_1k (by decide) hb_1o hkx rfl) (by decide) (by decide)
            have hs_136 : MTq I_133 J_116 x b_2 = s_106 := by rw [hI_133]; exact (mq_oI wmqx (ro_a hb_1k (by decide) hb_1o hkx rfl) (by decide)).trans hs_122
            have hs_137 : NRq I_133 J_116 x b_1 b_4 = (NR_.w_rd s_121 (up1 (s_121.rd) (1) (x_132))) := by rw [hI_133]; exact ((nq_rd wnqx).trans (congrArg (fun z : NR_ => NR_.w_rd z (up1 (z.rd) (1) (x_132))) hs_121)).trans rfl
            refine g_iconst C (v := 1) dX12_readDish_92 (by decide) ?_
            exact g_zret (ty := .boolean) (r := 1) B K rfl (rfl) ⟨hU_134, hF_135, hG_119, rg_w rc_1 (by decide) (by decide), (by simp only [mReadDish, mInc, emqx, hs_136, hs_3, enqx, hs_137, hs_5, c_12, hx_15, h_17, f_22, hx_23, c_30, h_33, hx_37, hx_38, f_39, c_46, hx_49, f_50, c_61, h_65, c_75, h_76, c_94, hx_97, f_98, c_105, hx_108, f_109, c_120, h_124, f_131, hx_132, if_true, if_false, mqM_tp, mqM_size, mqM_limit, mqM_to, mqM_frm, mqM_kind, mqM_number, mqM_sign, mqM_word, MT_.w_tp, MT_.w_size, MT_.w_limit, MT_.w_to, MT_.w_frm, MT_.w_kind, MT_.w_number, MT_.w_sign, MT_.w_word, nqM_rd, nqM_rn, nqM_taped, nqM_mfault, nqM_mplace, nqM_told, nqM_hl, nqM_hd, NR_.w_rd, NR_.w_rn, NR_.w_taped, NR_.w_mfault, NR_.w_mplace, NR_.w_told, NR_.w_hl, NR_.w_hd]), ⟨(pg_u (pg_fq (pg_t (pg_s (ps_t2 (pg_fq (pg_t (pg_t (pg_t pg_rf ex_6.1.1) ex_24.1) ex_40.1.1) hFI_56 hLx hkx (by decide) (by decide)) ex_88)) ex_99.1.1) hFI_115 hLx hkx (by decide) (by decide)) hI_133 (Or.inl (kn_k hkx hb_1k (by decide))) (Or.inl (kn_k hkx hb_1k (by decide)))), fun _ => (ps_u (ps_fq (ps_t2 (pg_s (ps_t2 (pg_fq (pg_t (pg_t (pg_t pg_rf ex_6.1.1) ex_24.1) ex_40.1.1) hFI_56 hLx hkx (by decide) (by decide)) ex_88)) (ex_99.1.2 n_127)) hFI_115 hLx hkx (by decide) (by decide)) hI_133 (Or.inl (kn_k hkx hb_1k (by decide))) (Or.inl (kn_k hkx hb_1k (by decide))))⟩⟩ dX12_readDish_93
          · skip
            have r_138 := (⟨(rx_114).1, (eq_rg (h_124) rc_0).2⟩ : Rg 0 0 x_114)
            refine g_iconst C (v := 0) dX12_readDish_80 (by decide) ?_
            exact g_zret (ty := .boolean) (r := 0) B K rfl (rfl) ⟨hUI_115, hF_118, hG_119, rg_w rc_0 (by decide) (by decide), (by simp only [mReadDish, mInc, emqx, hs_122, hs_3, enqx, hs_121, hs_5, c_12, hx_15, h_17, f_22, hx_23, c_30, h_33, hx_37, hx_38, f_39, c_46, hx_49, f_50, c_61, h_65, c_75, h_76, c_94, hx_97, f_98, c_105, hx_108, f_109, c_120, (eq_true h_124), if_true, if_false, mqM_tp, mqM_size, mqM_limit, mqM_to, mqM_frm, mqM_kind, mqM_number, mqM_sign, mqM_word, MT_.w_tp, MT_.w_size, MT_.w_limit, MT_.w_to, MT_.w_frm, MT_.w_kind, MT_.w_number, MT_.w_sign, MT_.w_word, nqM_rd, nqM_rn, nqM_taped, nqM_mfault, nqM_mplace, nqM_told, nqM_hl, nqM_hd, NR_.w_rd, NR_.w_rn, NR_.w_taped, NR_.w_mfault, NR_.w_mplace, NR_.w_told, NR_.w_hl, NR_.w_hd]), ⟨(pg_fq (pg_t (pg_s (ps_t2 (pg_fq (pg_t (pg_t (pg_t pg_rf ex_6.1.1) ex_24.1) ex_40.1.1) hFI_56 hLx hkx (by decide) (by decide)) ex_88)) ex_99.1.1) hFI_115 hLx hkx (by decide) (by decide)), fun q => absurd rfl q⟩⟩ dX12_readDish_81
      · skip
        have r_139 := (⟨(rx_55).1, (eq_rg (h_65) rc_0).2⟩ : Rg 0 0 x_55)
        refine g_iconst C (v := 0) dX12_readDish_48 (by decide) ?_
        exact g_zret (ty := .boolean) (r := 0) B K rfl (rfl) ⟨hUI_56, hF_59, hG_60, rg_w rc_0 (by decide) (by decide), (by simp only [mReadDish, mInc, emqx, hs_63, hs_3, enqx, hs_62, hs_5, c_12, hx_15, h_17, f_22, hx_23, c_30, h_33, hx_37, hx_38, f_39, c_46, hx_49, f_50, c_61, (eq_true h_65), if_true, if_false, mqM_tp, mqM_size, mqM_limit, mqM_to, mqM_frm, mqM_kind, mqM_number, mqM_sign, mqM_word, MT_.w_tp, MT_.w_size, MT_.w_limit, MT_.w_to, MT_.w_frm, MT_.w_kind, MT_.w_number, MT_.w_sign, MT_.w_word, nqM_rd, nqM_rn, nqM_taped, nqM_mfault, nqM_mplace, nqM_told, nqM_hl, nqM_hd, NR_.w_rd, NR_.w_rn, NR_.w_taped, NR_.w_mfault, NR_.w_mplace, NR_.w_told, NR_.w_hl, NR_.w_hd]), ⟨(pg_fq (pg_t (pg_t (pg_t pg_rf ex_6.1.1) ex_24.1) ex_40.1.1) hFI_56 hLx hkx (by decide) (by decide)), fun q => absurd rfl q⟩⟩ dX12_readDish_49
  · skip
    have r_140 := (⟨(rx_6).1, (eq_rg (h_17) rc_0).2⟩ : Rg 0 0 x_6)
    refine g_iconst C (v := 0) dX12_readDish_10 (by decide) ?_
    exact g_zret (ty := .boolean) (r := 0) B K rfl (rfl) ⟨hUI_7, hF_10, hG_11, rg_w rc_0 (by decide) (by decide), (by simp only [mReadDish, mInc, emqx, hs_13, hs_3, enqx, hs_14, hs_5, c_12, hx_15, (eq_true h_17), if_true, if_false, mqM_tp, mqM_size, mqM_limit, mqM_to, mqM_frm, mqM_kind, mqM_number, mqM_sign, mqM_word, MT_.w_tp, MT_.w_size, MT_.w_limit, MT_.w_to, MT_.w_frm, MT_.w_kind, MT_.w_number, MT_.w_sign, MT_.w_word, nqM_rd, nqM_rn, nqM_taped, nqM_mfault, nqM_mplace, nqM_told, nqM_hl, nqM_hd, NR_.w_rd, NR_.w_rn, NR_.w_taped, NR_.w_mfault, NR_.w_mplace, NR_.w_told, NR_.w_hl, NR_.w_hd]), ⟨(pg_t pg_rf ex_6.1.1), fun q => absurd rfl q⟩⟩ dX12_readDish_11
set_option maxRecDepth 100000 in
set_option maxHeartbeats 8000000 in
theorem c_X12_readLaw {l : Launch} {D : va_G} {cy : Nat → ClassId} {L : List Nat} {κ ln : Nat → Nat} {R : Nat → Nat → Option Nat} {I : Nat → Nat → Int32} {J : Nat → Nat → Int64} {ow : Nat → Nat × Nat} (W9 : ∀ a ∈ L, Shp L κ ln R ow a) {x : Nat} (hLx : x ∈ L) (hkx : κ x = 12) (hU : Iw L κ R ow I) : CtI l yX12_readLaw cX12_readLaw 2 (some .boolean) { frames := 3, cells := 0, slots := 0, locals := 69 } D cy L κ ln R I J [.ref x] (fun r I2 J2 => Iw L κ R ow I2 ∧ Fq L κ ow [1205, 1206, 1207, 1208, 1209, 1210, 1211, 1224, 83500] I I2 ∧ Fq L κ ow [1212] J J2 ∧ Rg 0 1 r ∧ ((r, MTf R I2 J2 x, NRf R I2 J2 x) = mReadLaw (MTf R I J x) (NRf R I J x)) ∧ (Pg_ x I I2 ∧ (¬ r = 0 → Ps_ x I I2))) := by
  refine CtI.of (by decide +kernel) (Nat.le_of_ble_eq_true rfl) ?_
  intro p e s m below meth c B K
  have C := B.1
  have hF : Fq L κ ow [1205, 1206, 1207, 1208, 1209, 1210, 1211, 1224, 83500] I I := fq_rf
  have hG : Fq L κ ow [1212] J J := fq_rf
  obtain ⟨b_1, hb_1, hb_1L, hb_1k, hb_1n, hb_1o⟩ := shp_a (W9 x hLx) hkx 15 14 72 rfl (by decide)
  obtain ⟨b_2, hb_2, hb_2L, hb_2k, hb_2n, hb_2o⟩ := shp_a (W9 x hLx) hkx 1 14 940 rfl (by decide)
  have emqx : ∀ I J, MTf R I J x = MTq I J x b_2 := fun I J => by simp only [MTf, rr_, Option.getD_some, hb_2]
  have wmqx : mqw_ L κ ow x b_2 := ⟨⟨hLx, hb_2L⟩, ⟨(ro_o hkx (by decide)), (ro_a hb_2k (by decide) hb_2o hkx rfl)⟩⟩
  obtain ⟨s_3, hs_3⟩ : ∃ z, MTq I J x b_2 = z := ⟨_, rfl⟩
  obtain ⟨b_4, hb_4, hb_4L, hb_4k, hb_4n, hb_4o⟩ := shp_a (W9 x hLx) hkx 20 15 13 rfl (by decide)
  have enqx : ∀ I J, NRf R I J x = NRq I J x b_1 b_4 := fun I J => by simp only [NRf, rr_, Option.getD_some, hb_1, hb_4]
  have wnqx : nqw_ L κ ow x b_1 b_4 := ⟨⟨hLx, hb_1L, hb_4L⟩, ⟨(ro_o hkx (by decide)), (ro_a hb_1k (by decide) hb_1o hkx rfl), (ro_a hb_4k (by decide) hb_4o hkx rfl)⟩⟩
  obtain ⟨s_5, hs_5⟩ : ∃ z, NRq I J x b_1 b_4 = z := ⟨_, rfl⟩
  refine g_lo (is := [0]) (lo2 := [(0, .ref x)]) rfl ?_
  have l_24 : ∀ (n_24 : Nat) (I_6 : Nat → Nat → Int32) (J_7 : Nat → Nat → Int64) (hU_8 : Iw L κ R ow I_6) (hF_9 : Fq L κ ow [1205, 1206, 1207, 1208, 1209, 1210, 1211, 1224, 83500] I I_6) (hG_10 : Fq L κ ow [1212] J J_7) (v_11 : Int32) (rv_11 : Rg 5 8 v_11) (q_12 : I_6 x 24 = 1) (pg_13 : Pg_ x I I_6) (ps_14 : Ps_ x I I_6) (hq_15 : (if mlw v_11 (MTq I_6 J_7 x b_2) ≤ 7 then ((1 : Int32), mGo (MTq I_6 J_7 x b_2), NR_.w_rd (NRq I_6 J_7 x b_1 b_4) (up1 (NR_.rd (NRq I_6 J_7 x b_1 b_4)) 2 (mlw v_11 (MTq I_6 J_7 x b_2) - 5))) else mBad 1 (MTq I_6 J_7 x b_2) (NRq I_6 J_7 x b_1 b_4)) = mReadLaw s_3 s_5) (hm_16 : 8 < (v_11 : Int32).toInt + (n_24 : Int)), WG p l e { frames := 3, cells := 0, slots := 0, locals := 69 } s m ([.ref x] : List Value).toArray below meth c 2 0 0 (MQ below (Qi_ D cy L κ ln R (fun r I2 J2 => Iw L κ R ow I2 ∧ Fq L κ ow [1205, 1206, 1207, 1208, 1209, 1210, 1211, 1224, 83500] I I2 ∧ Fq L κ ow [1212] J J2 ∧ Rg 0 1 r ∧ ((r, MTf R I2 J2 x, NRf R I2 J2 x) = mReadLaw (MTf R I J x) (NRf R I J x)) ∧ (Pg_ x I I2 ∧ (¬ r = 0 → Ps_ x I I2)))) ([.ref x] : List Value).toArray s 0 0 (Al_ L)) D cy (Al_ L) s.heap L κ ln R I_6 J_7 24 [(0, .ref x), (1, .int v_11)] [] := by
    intro n_24
    induction n_24 with
    | zero =>
      intro I_6 J_7 hU_8 hF_9 hG_10 v_11 rv_11 q_12 pg_13 ps_14 hq_15 hm_16
      exact ms_0 rv_11 hm_16
    | succ n_24 ih_24 =>
      intro I_6 J_7 hU_8 hF_9 hG_10 v_11 rv_11 q_12 pg_13 ps_14 hq_15 hm_16
      obtain ⟨s_17, hs_17⟩ : ∃ z, MTq I_6 J_7 x b_2 = z := ⟨_, rfl⟩
      obtain ⟨s_18, hs_18⟩ : ∃ z, NRq I_6 J_7 x b_1 b_4 = z := ⟨_, rfl⟩
      simp only [hs_17, hs_18] at hq_15
      have hQ_19 := hq_15.symm
      have u_20 := mlw_eq (w := v_11) (m := s_17) (rg_w rv_11 (by decide) (by decide))
      refine g_iload_n C 1 dX12_readLaw_24 rfl rfl ?_
      refine g_bipush C (v := 7) dX12_readLaw_25 (by decide) ?_
      refine g_icmp_gt C (tgt := 44) dX12_readLaw_27 (by decide) (fun h_21 => ?_) (fun h_21 => ?_)
      · skip
        have r_22 := lt_r (lo := 8) (h_21) rc_7 rv_11 (by decide)
        refine g_iload_n C 1 dX12_readLaw_44 rfl rfl ?_
        refine g_bipush C (v := 7) dX12_readLaw_45 (by decide) ?_
        refine g_icmp_le C (tgt := 56) dX12_readLaw_47 (by decide) (fun h_23 => ?_) (fun h_23 => ?_)
        · skip
          have r_24 := le_l (h_23) r_22 rc_7
          exact rg_no r_24 (by decide)
        · skip
          refine g_aload_n C 0 dX12_readLaw_50 rfl rfl ?_
          refine g_iconst C (v := 1) dX12_readLaw_51 (by decide) ?_
          refine g_callVI C K (c_X12_bad W9 hLx hkx 1 (rg_w rc_1 (by decide) (by decide)) hU_8) hLx hkx (by decide) rfl v_12_146 rfl ⟨rfl, rfl⟩ ⟨Nat.le_of_ble_eq_true rfl, Nat.le_of_ble_eq_true rfl⟩ (Nat.le_of_ble_eq_true rfl) ⟨Nat.le_of_ble_eq_true rfl, Nat.le_of_ble_eq_true rfl⟩ dX12_readLaw_52 rfl (st := []) (fun x_25 I_26 J_27 h_28 => ?_)
          obtain ⟨hUI_26, hFI_26, hGJ_27, rx_25, fx_25⟩ := h_28
          have hF_29 := fq_tr hF_9 hFI_26 (by decide)
          have hG_30 := fq_tr hG_10 hGJ_27 (by decide)
          obtain ⟨s_32, hs_32⟩ : ∃ z, MTq I_26 J_27 x b_2 = z := ⟨_, rfl⟩
          obtain ⟨s_33, hs_33⟩ : ∃ z, NRq I_26 J_27 x b_1 b_4 = z := ⟨_, rfl⟩
          have c_31 : mBad (1) (s_17) (s_18) = (x_25, s_32, s_33) := by have q := fx_25; simp only [emqx, enqx, hs_17, hs_18, hs_32, hs_33] at q; exact q.symm
          exact g_zret (ty := .boolean) (r := x_25) B K rfl (nar_z (rg_w rx_25 (by decide) (by decide))) ⟨hUI_26, hF_29, hG_30, rg_w rx_25 (by decide) (by decide), (by (try simp only [h_21, h_23, (nle h_23), c_31, if_true, if_false, mqM_tp, mqM_size, mqM_limit, mqM_to, mqM_frm, mqM_kind, mqM_number, mqM_sign, mqM_word, MT_.w_tp, MT_.w_size, MT_.w_limit, MT_.w_to, MT_.w_frm, MT_.w_kind, MT_.w_number, MT_.w_sign, MT_.w_word, nqM_rd, nqM_rn, nqM_taped, nqM_mfault, nqM_mplace, nqM_told, nqM_hl, nqM_hd, NR_.w_rd, NR_.w_rn, NR_.w_taped, NR_.w_mfault, NR_.w_mplace, NR_.w_told, NR_.w_hl, NR_.w_hd] at hQ_19); (try simp only [h_21, h_23, (nle h_23), c_31, if_true, if_false, mqM_tp, mqM_size, mqM_limit, mqM_to, mqM_frm, mqM_kind, mqM_number, mqM_sign, mqM_word, MT_.w_tp, MT_.w_size, MT_.w_limit, MT_.w_to, MT_.w_frm, MT_.w_kind, MT_.w_number, MT_.w_sign, MT_.w_word, nqM_rd, nqM_rn, nqM_taped, nqM_mfault, nqM_mplace, nqM_told, nqM_hl, nqM_hd, NR_.w_rd, NR_.w_rn, NR_.w_taped, NR_.w_mfault, NR_.w_mplace, NR_.w_told, NR_.w_hl, NR_.w_hd] at u_20); simp only [emqx, hs_32, hs_3, enqx, hs_33, hs_5, hQ_19, u_20, h_21, h_23, (nle h_23), c_31, if_true, if_false, mqM_tp, mqM_size, mqM_limit, mqM_to, mqM_frm, mqM_kind, mqM_number, mqM_sign, mqM_word, MT_.w_tp, MT_.w_size, MT_.w_limit, MT_.w_to, MT_.w_frm, MT_.w_kind, MT_.w_number, MT_.w_sign, MT_.w_word, nqM_rd, nqM_rn, nqM_taped, nqM_mfault, nqM_mplace, nqM_told, nqM_hl, nqM_hd, NR_.w_rd, NR_.w_rn, NR_.w_taped, NR_.w_mfault, NR_.w_mplace, NR_.w_told, NR_.w_hl, NR_.w_hd]), ⟨(pg_fq pg_13 hFI_26 hLx hkx (by decide) (by decide)), fun q => ne_no q rx_25 rc_0⟩⟩ dX12_readLaw_55
      · skip
        have r_34 := le_l (nlt h_21) rv_11 rc_7
        refine g_aload_n C 0 dX12_readLaw_30 rfl rfl ?_
        refine g_iload_n C 1 dX12_readLaw_31 rfl rfl ?_
        refine g_callVI C K (c_X12_isWord W9 hLx hkx v_11 (rg_w r_34 (by decide) (by decide)) hU_8) hLx hkx (by decide) rfl v_12_191 rfl ⟨rfl, rfl⟩ ⟨Nat.le_of_ble_eq_true rfl, Nat.le_of_ble_eq_true rfl⟩ (Nat.le_of_ble_eq_true rfl) ⟨Nat.le_of_ble_eq_true rfl, Nat.le_of_ble_eq_true rfl⟩ dX12_readLaw_32 rfl (st := []) (fun x_35 I_36 J_37 h_38 => ?_)
        obtain ⟨rfl, rfl, rx_35, fx_35⟩ := h_38
        have c_39 : mIsWord (v_11) (s_17) = x_35 := by have q := fx_35; simp only [emqx, hs_17] at q; exact q.symm
        refine g_if_ne C (tgt := 44) dX12_readLaw_35 (by decide) (fun h_40 => ?_) (fun h_40 => ?_)
        · skip
          have n_41 : ¬ x_35 = 0 := h_40
          have r_42 := ne_lo (lo := 1) n_41 rx_35 rc_0 rfl (by decide)
          refine g_iload_n C 1 dX12_readLaw_44 rfl rfl ?_
          refine g_bipush C (v := 7) dX12_readLaw_45 (by decide) ?_
          refine g_icmp_le C (tgt := 56) dX12_readLaw_47 (by decide) (fun h_43 => ?_) (fun h_43 => ?_)
          · skip
            refine g_aload_n C 0 dX12_readLaw_56 rfl rfl ?_
            refine g_getR C K hLx hkx f_12_16 hb_1 dX12_readLaw_57 ?_
            refine g_iconst C (v := 2) dX12_readLaw_60 (by decide) ?_
            refine g_iload_n C 1 dX12_readLaw_61 rfl rfl ?_
            refine g_iconst C (v := 5) dX12_readLaw_62 (by decide) ?_
            obtain ⟨x_44, hx_44, rx_44, tx_44⟩ := ex_sub 0 2 r_34 rc_5 (by decide) (by decide) (by decide) (by decide)
            refine g_isub C (v := x_44) dX12_readLaw_63 hx_44 ?_
            refine h_iast C K hb_1L hb_1k (2) (by decide) (by decide) (by rw [hb_1n]; decide) dX12_readLaw_64 (fun I_45 hI_45 => ?_)
            have hU_46 := iw_put W9 hU_8 hI_45 (ro_a hb_1k (by decide) hb_1o hkx rfl) (lo := (-2147483648)) (hi := 2147483647) (by decide) (rg_all _) rfl
            have hF_47 := fq_puta hF_9 hI_45 (ro_a hb_1k (by decide) hb_1o hkx rfl) (by decide) (by decide)
            have hs_48 : MTq I_45 J_7 x b_2 = s_17 := by rw [hI_45]; exact (mq_oI wmqx (ro_a hb_1k (by decide) hb_1o hkx rfl) (by decide)).trans hs_17
            have hs_49 : NRq I_45 J_7 x b_1 b_4 = (NR_.w_rd s_18 (up1 (s_18.rd) (2) (x_44))) := by rw [hI_45]; exact ((nq_rd wnqx).trans (congrArg (fun z : NR_ => NR_.w_rd z (up1 (z.rd) (2) (x_44))) hs_18)).trans rfl
            refine g_aload_n C 0 dX12_readLaw_65 rfl rfl ?_
            refine g_callVV C K (c_X12_go W9 hLx hkx   hU_46) hLx hkx (by decide) rfl v_12_156 rfl ⟨rfl, rfl⟩ ⟨Nat.le_of_ble_eq_true rfl, Nat.le_of_ble_eq_true rfl⟩ (Nat.le_of_ble_eq_true rfl) ⟨Nat.le_of_ble_eq_true rfl, Nat.le_of_ble_eq_true rfl⟩ dX12_readLaw_66 rfl (st := []) (fun I_51 J_52 h_53 => ?_)
            obtain ⟨hUI_51, hFI_51, hGJ_52, fx_50, ex_50⟩ := h_53
            have hF_54 := fq_tr hF_47 hFI_51 (by decide)
            have hG_55 := fq_tr hG_10 hGJ_52 (by decide)
            obtain ⟨s_57, hs_57⟩ : ∃ z, MTq I_51 J_52 x b_2 = z := ⟨_, rfl⟩
            have c_56 : mGo (s_17) = s_57 := by have q := fx_50; simp only [emqx, hs_48, hs_57] at q; exact q.symm
            have hs_58 : NRq I_51 J_52 x b_1 b_4 = (NR_.w_rd s_18 (up1 (s_18.rd) (2) (x_44))) := (nq_fq wnqx hFI_51 hGJ_52 (by decide) (by decide)).trans hs_49
            refine g_iconst C (v := 1) dX12_readLaw_69 (by decide) ?_
            exact g_zret (ty := .boolean) (r := 1) B K rfl (rfl) ⟨hUI_51, hF_54, hG_55, rg_w rc_1 (by decide) (by decide), (by (try simp only [h_21, (nlt h_21), c_39, h_40, h_43, hx_44, c_56, if_true, if_false, mqM_tp, mqM_size, mqM_limit, mqM_to, mqM_frm, mqM_kind, mqM_number, mqM_sign, mqM_word, MT_.w_tp, MT_.w_size, MT_.w_limit, MT_.w_to, MT_.w_frm, MT_.w_kind, MT_.w_number, MT_.w_sign, MT_.w_word, nqM_rd, nqM_rn, nqM_taped, nqM_mfault, nqM_mplace, nqM_told, nqM_hl, nqM_hd, NR_.w_rd, NR_.w_rn, NR_.w_taped, NR_.w_mfault, NR_.w_mplace, NR_.w_told, NR_.w_hl, NR_.w_hd] at hQ_19); (try simp only [h_21, (nlt h_21), c_39, h_40, h_43, hx_44, c_56, if_true, if_false, mqM_tp, mqM_size, mqM_limit, mqM_to, mqM_frm, mqM_kind, mqM_number, mqM_sign, mqM_word, MT_.w_tp, MT_.w_size, MT_.w_limit, MT_.w_to, MT_.w_frm, MT_.w_kind, MT_.w_number, MT_.w_sign, MT_.w_word, nqM_rd, nqM_rn, nqM_taped, nqM_mfault, nqM_mplace, nqM_told, nqM_hl, nqM_hd, NR_.w_rd, NR_.w_rn, NR_.w_taped, NR_.w_mfault, NR_.w_mplace, NR_.w_told, NR_.w_hl, NR_.w_hd] at u_20); simp only [emqx, hs_57, hs_3, enqx, hs_58, hs_5, hQ_19, u_20, h_21, (nlt h_21), c_39, h_40, h_43, hx_44, c_56, if_true, if_false, mqM_tp, mqM_size, mqM_limit, mqM_to, mqM_frm, mqM_kind, mqM_number, mqM_sign, mqM_word, MT_.w_tp, MT_.w_size, MT_.w_limit, MT_.w_to, MT_.w_frm, MT_.w_kind, MT_.w_number, MT_.w_sign, MT_.w_word, nqM_rd, nqM_rn, nqM_taped, nqM_mfault, nqM_mplace, nqM_told, nqM_hl, nqM_hd, NR_.w_rd, NR_.w_rn, NR_.w_taped, NR_.w_mfault, NR_.w_mplace, NR_.w_told, NR_.w_hl, NR_.w_hd]), ⟨(pg_s (ps_t2 (pg_u pg_13 hI_45 (Or.inl (kn_k hkx hb_1k (by decide))) (Or.inl (kn_k hkx hb_1k (by decide)))) ex_50)), fun _ => (ps_t2 (pg_u pg_13 hI_45 (Or.inl (kn_k hkx hb_1k (by decide))) (Or.inl (kn_k hkx hb_1k (by decide)))) ex_50)⟩⟩ dX12_readLaw_70
          · skip
            have r_59 := lt_r (lo := 8) (nle h_43) rc_7 r_34 (by decide)
            exact rg_no r_59 (by decide)
        · skip
          have r_60 := (⟨(rx_35).1, (eq_rg (h_40) rc_0).2⟩ : Rg 0 0 x_35)
          obtain ⟨x_61, hx_61, rx_61, tx_61⟩ := ex_add (y := 1) 6 8 r_34 rc_1 (by decide) (by decide) (by decide) (by decide)
          refine g_iinc C dX12_readLaw_38 (k := 1) (v := x_61) rfl hx_61 (by decide) (lo2 := [(1, .int x_61), (0, .ref x)]) rfl ?_
          refine g_goto C (tgt := 24) dX12_readLaw_41 (by decide) ?_
          refine g_lo (is := [1, 0]) (lo2 := [(0, .ref x), (1, .int x_61)]) rfl ?_
          exact ih_24 I_6 J_7 hU_8 hF_9 hG_10 x_61 (rg_w rx_61 (by decide) (by decide)) q_12 pg_13 ps_14 (by (try simp only [h_21, (nlt h_21), c_39, (eq_true h_40), hx_61, if_true, if_false, mqM_tp, mqM_size, mqM_limit, mqM_to, mqM_frm, mqM_kind, mqM_number, mqM_sign, mqM_word, MT_.w_tp, MT_.w_size, MT_.w_limit, MT_.w_to, MT_.w_frm, MT_.w_kind, MT_.w_number, MT_.w_sign, MT_.w_word, nqM_rd, nqM_rn, nqM_taped, nqM_mfault, nqM_mplace, nqM_told, nqM_hl, nqM_hd, NR_.w_rd, NR_.w_rn, NR_.w_taped, NR_.w_mfault, NR_.w_mplace, NR_.w_told, NR_.w_hl, NR_.w_hd] at hQ_19); (try simp only [h_21, (nlt h_21), c_39, (eq_true h_40), hx_61, if_true, if_false, mqM_tp, mqM_size, mqM_limit, mqM_to, mqM_frm, mqM_kind, mqM_number, mqM_sign, mqM_word, MT_.w_tp, MT_.w_size, MT_.w_limit, MT_.w_to, MT_.w_frm, MT_.w_kind, MT_.w_number, MT_.w_sign, MT_.w_word, nqM_rd, nqM_rn, nqM_taped, nqM_mfault, nqM_mplace, nqM_told, nqM_hl, nqM_hd, NR_.w_rd, NR_.w_rn, NR_.w_taped, NR_.w_mfault, NR_.w_mplace, NR_.w_told, NR_.w_hl, NR_.w_hd] at u_20); simp only [emqx, hs_17, hs_3, enqx, hs_18, hs_5, hQ_19, u_20, h_21, (nlt h_21), c_39, (eq_true h_40), hx_61, if_true, if_false, mqM_tp, mqM_size, mqM_limit, mqM_to, mqM_frm, mqM_kind, mqM_number, mqM_sign, mqM_word, MT_.w_tp, MT_.w_size, MT_.w_limit, MT_.w_to, MT_.w_frm, MT_.w_kind, MT_.w_number, MT_.w_sign, MT_.w_word, nqM_rd, nqM_rn, nqM_taped, nqM_mfault, nqM_mplace, nqM_told, nqM_hl, nqM_hd, NR_.w_rd, NR_.w_rn, NR_.w_taped, NR_.w_mfault, NR_.w_mplace, NR_.w_told, NR_.w_hl, NR_.w_hd]) (ms_1 hm_16 (ti_k tx_61 rc_1) (by decide))
  refine g_aload_n C 0 dX12_readLaw_0 rfl rfl ?_
  obtain ⟨x_62, hx_62, rx_62⟩ := ex_getw (I := I) (a := x) (j := 24) (lo := 0) (hi := 1) hU.1 hLx (ro_o hkx (by decide)) rfl
  have f_63 : s_5.hl = x_62 := (congrArg NR_.hl hs_5).symm.trans hx_62
  refine g_getI C K hLx hkx f_12_197 (v := x_62) hx_62 dX12_readLaw_1 ?_
  refine g_if_eq C (tgt := 13) dX12_readLaw_4 (by decide) (fun h_64 => ?_) (fun h_64 => ?_)
  · skip
    have r_65 := (⟨(rx_62).1, (eq_rg (h_64) rc_0).2⟩ : Rg 0 0 x_62)
    refine g_aload_n C 0 dX12_readLaw_13 rfl rfl ?_
    refine g_iconst C (v := 1) dX12_readLaw_14 (by decide) ?_
    refine h_putZ C K hLx hkx f_12_197 p_12_24 (rg_bool (rg_w rc_1 (by decide) (by decide))) dX12_readLaw_15 (fun I_66 hI_66 => ?_)
    have hU_67 := iw_put W9 hU hI_66 (ro_o hkx (by decide)) (lo := 0) (hi := 1) (rfl) (rg_w rc_1 (by decide) (by decide)) rfl
    have hF_68 := fq_puto hF hI_66 hkx (by decide) (by decide)
    have hs_69 : MTq I_66 J x b_2 = s_3 := by rw [hI_66]; exact (mq_uIt wmqx (by decide)).trans hs_3
    have hs_70 : NRq I_66 J x b_1 b_4 = (NR_.w_hl s_5 (1)) := by rw [hI_66]; exact ((nq_hl wnqx).trans (congrArg (fun z : NR_ => NR_.w_hl z (1)) hs_5)).trans rfl
    refine g_aload_n C 0 dX12_readLaw_18 rfl rfl ?_
    refine g_callVV C K (c_X12_go W9 hLx hkx   hU_67) hLx hkx (by decide) rfl v_12_156 rfl ⟨rfl, rfl⟩ ⟨Nat.le_of_ble_eq_true rfl, Nat.le_of_ble_eq_true rfl⟩ (Nat.le_of_ble_eq_true rfl) ⟨Nat.le_of_ble_eq_true rfl, Nat.le_of_ble_eq_true rfl⟩ dX12_readLaw_19 rfl (st := []) (fun I_72 J_73 h_74 => ?_)
    obtain ⟨hUI_72, hFI_72, hGJ_73, fx_71, ex_71⟩ := h_74
    have hF_75 := fq_tr hF_68 hFI_72 (by decide)
    have hG_76 := fq_tr hG hGJ_73 (by decide)
    obtain ⟨s_78, hs_78⟩ : ∃ z, MTq I_72 J_73 x b_2 = z := ⟨_, rfl⟩
    have c_77 : mGo (s_3) = s_78 := by have q := fx_71; simp only [emqx, hs_69, hs_78] at q; exact q.symm
    have hs_79 : NRq I_72 J_73 x b_1 b_4 = (NR_.w_hl s_5 (1)) := (nq_fq wnqx hFI_72 hGJ_73 (by decide) (by decide)).trans hs_70
    refine g_iconst C (v := 5) dX12_readLaw_22 (by decide) ?_
    refine g_istore_n C dX12_readLaw_23 rfl (by decide) (lo2 := [(1, .int 5), (0, .ref x)]) rfl ?_
    refine g_lo (is := [1, 0]) (lo2 := [(0, .ref x), (1, .int 5)]) rfl ?_
    exact l_24 4 I_72 J_73 hUI_72 hF_75 hG_76 5 (rg_w rc_5 (by decide) (by decide)) (fq_at hFI_72 hLx hkx (by decide) (by decide) (kp_s hI_66)) (pg_s (ps_t2 (pg_u pg_rf hI_66 (Or.inr (by decide)) (Or.inr (by decide))) ex_71)) (ps_t2 (pg_u pg_rf hI_66 (Or.inr (by decide)) (Or.inr (by decide))) ex_71) (by simp only [mReadLaw, mRl, emqx, hs_78, hs_3, enqx, hs_79, hs_5, hx_62, f_63, (eq_true h_64), c_77, if_true, if_false, mqM_tp, mqM_size, mqM_limit, mqM_to, mqM_frm, mqM_kind, mqM_number, mqM_sign, mqM_word, MT_.w_tp, MT_.w_size, MT_.w_limit, MT_.w_to, MT_.w_frm, MT_.w_kind, MT_.w_number, MT_.w_sign, MT_.w_word, nqM_rd, nqM_rn, nqM_taped, nqM_mfault, nqM_mplace, nqM_told, nqM_hl, nqM_hd, NR_.w_rd, NR_.w_rn, NR_.w_taped, NR_.w_mfault, NR_.w_mplace, NR_.w_told, NR_.w_hl, NR_.w_hd]) (ms_s (a := 5) (b := 8) (N := 4) (rg_w rc_5 (by decide) (by decide)) (by decide))
  · skip
    have n_80 : ¬ x_62 = 0 := h_64
    have r_81 := ne_lo (lo := 1) n_80 rx_62 rc_0 rfl (by decide)
    refine g_aload_n C 0 dX12_readLaw_7 rfl rfl ?_
    refine g_iconst C (v := 3) dX12_readLaw_8 (by decide) ?_
    refine g_callVI C K (c_X12_bad W9 hLx hkx 3 (rg_w rc_3 (by decide) (by decide)) hU) hLx hkx (by decide) rfl v_12_146 rfl ⟨rfl, rfl⟩ ⟨Nat.le_of_ble_eq_true rfl, Nat.le_of_ble_eq_true rfl⟩ (Nat.le_of_ble_eq_true rfl) ⟨Nat.le_of_ble_eq_true rfl, Nat.le_of_ble_eq_true rfl⟩ dX12_readLaw_9 rfl (st := []) (fun x_82 I_83 J_84 h_85 => ?_)
    obtain ⟨hUI_83, hFI_83, hGJ_84, rx_82, fx_82⟩ := h_85
    have hF_86 := fq_tr hF hFI_83 (by decide)
    have hG_87 := fq_tr hG hGJ_84 (by decide)
    obtain ⟨s_89, hs_89⟩ : ∃ z, MTq I_83 J_84 x b_2 = z := ⟨_, rfl⟩
    obtain ⟨s_90, hs_90⟩ : ∃ z, NRq I_83 J_84 x b_1 b_4 = z := ⟨_, rfl⟩
    have c_88 : mBad (3) (s_3) (s_5) = (x_82, s_89, s_90) := by have q := fx_82; simp only [emqx, enqx, hs_3, hs_5, hs_89, hs_90] at q; exact q.symm
    exact g_zret (ty := .boolean) (r := x_82) B K rfl (nar_z (rg_w rx_82 (by decide) (by decide))) ⟨hUI_83, hF_86, hG_87, rg_w rx_82 (by decide) (by decide), (by simp only [mReadLaw, emqx, hs_89, hs_3, enqx, hs_90, hs_5, hx_62, f_63, h_64, c_88, if_true, if_false, mqM_tp, mqM_size, mqM_limit, mqM_to, mqM_frm, mqM_kind, mqM_number, mqM_sign, mqM_word, MT_.w_tp, MT_.w_size, MT_.w_limit, MT_.w_to, MT_.w_frm, MT_.w_kind, MT_.w_number, MT_.w_sign, MT_.w_word, nqM_rd, nqM_rn, nqM_taped, nqM_mfault, nqM_mplace, nqM_told, nqM_hl, nqM_hd, NR_.w_rd, NR_.w_rn, NR_.w_taped, NR_.w_mfault, NR_.w_mplace, NR_.w_told, NR_.w_hl, NR_.w_hd]), ⟨(pg_fq pg_rf hFI_83 hLx hkx (by decide) (by decide)), fun q => ne_no q rx_82 rc_0⟩⟩ dX12_readLaw_12
