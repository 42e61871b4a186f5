theorem dX0_readFrom_0 : decode cX0_readFrom 0 = .ok (.aload_n 1, 1) := by decide +kernel
theorem dX0_readFrom_1 : decode cX0_readFrom 1 = .ok (.sipush 400, 3) := by decide +kernel
theorem dX0_readFrom_4 : decode cX0_readFrom 4 = .ok (.invokevirtual 44, 3) := by decide +kernel
theorem dX0_readFrom_7 : decode cX0_readFrom 7 = .ok (.aload_n 0, 1) := by decide +kernel
theorem dX0_readFrom_8 : decode cX0_readFrom 8 = .ok (.iconst 0, 1) := by decide +kernel
theorem dX0_readFrom_9 : decode cX0_readFrom 9 = .ok (.putfield 24, 3) := by decide +kernel
theorem dX0_readFrom_12 : decode cX0_readFrom 12 = .ok (.aload_n 0, 1) := by decide +kernel
theorem dX0_readFrom_13 : decode cX0_readFrom 13 = .ok (.getfield 24, 3) := by decide +kernel
theorem dX0_readFrom_16 : decode cX0_readFrom 16 = .ok (.bipush 40, 2) := by decide +kernel
theorem dX0_readFrom_18 : decode cX0_readFrom 18 = .ok (.if_icmp .gt 34, 3) := by decide +kernel
theorem dX0_readFrom_21 : decode cX0_readFrom 21 = .ok (.aload_n 1, 1) := by decide +kernel
theorem dX0_readFrom_22 : decode cX0_readFrom 22 = .ok (.getfield 50, 3) := by decide +kernel
theorem dX0_readFrom_25 : decode cX0_readFrom 25 = .ok (.bipush 102, 2) := by decide +kernel
theorem dX0_readFrom_27 : decode cX0_readFrom 27 = .ok (.if_icmp .eq 25, 3) := by decide +kernel
theorem dX0_readFrom_30 : decode cX0_readFrom 30 = .ok (.aload_n 0, 1) := by decide +kernel
theorem dX0_readFrom_31 : decode cX0_readFrom 31 = .ok (.aload_n 1, 1) := by decide +kernel
theorem dX0_readFrom_32 : decode cX0_readFrom 32 = .ok (.aload_n 2, 1) := by decide +kernel
theorem dX0_readFrom_33 : decode cX0_readFrom 33 = .ok (.invokevirtual 53, 3) := by decide +kernel
theorem dX0_readFrom_36 : decode cX0_readFrom 36 = .ok (.ifCond .eq 16, 3) := by decide +kernel
theorem dX0_readFrom_39 : decode cX0_readFrom 39 = .ok (.aload_n 0, 1) := by decide +kernel
theorem dX0_readFrom_40 : decode cX0_readFrom 40 = .ok (.dup, 1) := by decide +kernel
theorem dX0_readFrom_41 : decode cX0_readFrom 41 = .ok (.getfield 24, 3) := by decide +kernel
theorem dX0_readFrom_44 : decode cX0_readFrom 44 = .ok (.iconst 1, 1) := by decide +kernel
theorem dX0_readFrom_45 : decode cX0_readFrom 45 = .ok (.iadd, 1) := by decide +kernel
theorem dX0_readFrom_46 : decode cX0_readFrom 46 = .ok (.putfield 24, 3) := by decide +kernel
theorem dX0_readFrom_49 : decode cX0_readFrom 49 = .ok (.goto (-37), 3) := by decide +kernel
theorem dX0_readFrom_52 : decode cX0_readFrom 52 = .ok (.return_, 1) := by decide +kernel
theorem dX0_readLine_0 : decode cX0_readLine 0 = .ok (.aload_n 1, 1) := by decide +kernel
theorem dX0_readLine_1 : decode cX0_readLine 1 = .ok (.getfield 50, 3) := by decide +kernel
theorem dX0_readLine_4 : decode cX0_readLine 4 = .ok (.bipush 100, 2) := by decide +kernel
theorem dX0_readLine_6 : decode cX0_readLine 6 = .ok (.if_icmp .ne 7, 3) := by decide +kernel
theorem dX0_readLine_9 : decode cX0_readLine 9 = .ok (.iconst 1, 1) := by decide +kernel
theorem dX0_readLine_10 : decode cX0_readLine 10 = .ok (.goto 4, 3) := by decide +kernel
theorem dX0_readLine_13 : decode cX0_readLine 13 = .ok (.iconst 0, 1) := by decide +kernel
theorem dX0_readLine_14 : decode cX0_readLine 14 = .ok (.istore_n 3, 1) := by decide +kernel
theorem dX0_readLine_15 : decode cX0_readLine 15 = .ok (.iload_n 3, 1) := by decide +kernel
theorem dX0_readLine_16 : decode cX0_readLine 16 = .ok (.ifCond .ne 18, 3) := by decide +kernel
theorem dX0_readLine_19 : decode cX0_readLine 19 = .ok (.aload_n 1, 1) := by decide +kernel
theorem dX0_readLine_20 : decode cX0_readLine 20 = .ok (.getfield 50, 3) := by decide +kernel
theorem dX0_readLine_23 : decode cX0_readLine 23 = .ok (.bipush 16, 2) := by decide +kernel
theorem dX0_readLine_25 : decode cX0_readLine 25 = .ok (.if_icmp .eq 9, 3) := by decide +kernel
theorem dX0_readLine_28 : decode cX0_readLine 28 = .ok (.aload_n 1, 1) := by decide +kernel
theorem dX0_readLine_29 : decode cX0_readLine 29 = .ok (.iconst 1, 1) := by decide +kernel
theorem dX0_readLine_30 : decode cX0_readLine 30 = .ok (.invokevirtual 57, 3) := by decide +kernel
theorem dX0_readLine_33 : decode cX0_readLine 33 = .ok (.ireturn, 1) := by decide +kernel
theorem dX0_readLine_34 : decode cX0_readLine 34 = .ok (.iload_n 3, 1) := by decide +kernel
theorem dX0_readLine_35 : decode cX0_readLine 35 = .ok (.ifCond .eq 14, 3) := by decide +kernel
theorem dX0_readLine_38 : decode cX0_readLine 38 = .ok (.aload_n 2, 1) := by decide +kernel
theorem dX0_readLine_39 : decode cX0_readLine 39 = .ok (.aload_n 1, 1) := by decide +kernel
theorem dX0_readLine_40 : decode cX0_readLine 40 = .ok (.getfield 61, 3) := by decide +kernel
theorem dX0_readLine_43 : decode cX0_readLine 43 = .ok (.invokevirtual 65, 3) := by decide +kernel
theorem dX0_readLine_46 : decode cX0_readLine 46 = .ok (.goto 4, 3) := by decide +kernel
theorem dX0_readLine_49 : decode cX0_readLine 49 = .ok (.iconst (-1), 1) := by decide +kernel
theorem dX0_readLine_50 : decode cX0_readLine 50 = .ok (.istore 4, 2) := by decide +kernel
theorem dX0_readLine_52 : decode cX0_readLine 52 = .ok (.iload_n 3, 1) := by decide +kernel
theorem dX0_readLine_53 : decode cX0_readLine 53 = .ok (.ifCond .eq 15, 3) := by decide +kernel
theorem dX0_readLine_56 : decode cX0_readLine 56 = .ok (.iload 4, 2) := by decide +kernel
theorem dX0_readLine_58 : decode cX0_readLine 58 = .ok (.iconst (-1), 1) := by decide +kernel
theorem dX0_readLine_59 : decode cX0_readLine 59 = .ok (.if_icmp .ne 9, 3) := by decide +kernel
theorem dX0_readLine_62 : decode cX0_readLine 62 = .ok (.aload_n 1, 1) := by decide +kernel
theorem dX0_readLine_63 : decode cX0_readLine 63 = .ok (.iconst 3, 1) := by decide +kernel
theorem dX0_readLine_64 : decode cX0_readLine 64 = .ok (.invokevirtual 57, 3) := by decide +kernel
theorem dX0_readLine_67 : decode cX0_readLine 67 = .ok (.ireturn, 1) := by decide +kernel
theorem dX0_readLine_68 : decode cX0_readLine 68 = .ok (.aload_n 0, 1) := by decide +kernel
theorem dX0_readLine_69 : decode cX0_readLine 69 = .ok (.getfield 24, 3) := by decide +kernel
theorem dX0_readLine_72 : decode cX0_readLine 72 = .ok (.bipush 40, 2) := by decide +kernel
theorem dX0_readLine_74 : decode cX0_readLine 74 = .ok (.if_icmp .lt 9, 3) := by decide +kernel
theorem dX0_readLine_77 : decode cX0_readLine 77 = .ok (.aload_n 1, 1) := by decide +kernel
theorem dX0_readLine_78 : decode cX0_readLine 78 = .ok (.iconst 4, 1) := by decide +kernel
theorem dX0_readLine_79 : decode cX0_readLine 79 = .ok (.invokevirtual 57, 3) := by decide +kernel
theorem dX0_readLine_82 : decode cX0_readLine 82 = .ok (.ireturn, 1) := by decide +kernel
theorem dX0_readLine_83 : decode cX0_readLine 83 = .ok (.aload_n 0, 1) := by decide +kernel
theorem dX0_readLine_84 : decode cX0_readLine 84 = .ok (.getfield 15, 3) := by decide +kernel
theorem dX0_readLine_87 : decode cX0_readLine 87 = .ok (.aload_n 0, 1) := by decide +kernel
theorem dX0_readLine_88 : decode cX0_readLine 88 = .ok (.getfield 24, 3) := by decide +kernel
theorem dX0_readLine_91 : decode cX0_readLine 91 = .ok (.iload 4, 2) := by decide +kernel
theorem dX0_readLine_93 : decode cX0_readLine 93 = .ok (.iastore, 1) := by decide +kernel
theorem dX0_readLine_94 : decode cX0_readLine 94 = .ok (.iload_n 3, 1) := by decide +kernel
theorem dX0_readLine_95 : decode cX0_readLine 95 = .ok (.ifCond .eq 7, 3) := by decide +kernel
theorem dX0_readLine_98 : decode cX0_readLine 98 = .ok (.aload_n 1, 1) := by decide +kernel
theorem dX0_readLine_99 : decode cX0_readLine 99 = .ok (.invokevirtual 71, 3) := by decide +kernel
theorem dX0_readLine_102 : decode cX0_readLine 102 = .ok (.aload_n 0, 1) := by decide +kernel
theorem dX0_readLine_103 : decode cX0_readLine 103 = .ok (.aload_n 1, 1) := by decide +kernel
theorem dX0_readLine_104 : decode cX0_readLine 104 = .ok (.aload_n 2, 1) := by decide +kernel
theorem dX0_readLine_105 : decode cX0_readLine 105 = .ok (.invokevirtual 74, 3) := by decide +kernel
theorem dX0_readLine_108 : decode cX0_readLine 108 = .ok (.ifCond .eq 16, 3) := by decide +kernel
theorem dX0_readLine_111 : decode cX0_readLine 111 = .ok (.aload_n 1, 1) := by decide +kernel
theorem dX0_readLine_112 : decode cX0_readLine 112 = .ok (.bipush 59, 2) := by decide +kernel
theorem dX0_readLine_114 : decode cX0_readLine 114 = .ok (.invokevirtual 77, 3) := by decide +kernel
theorem dX0_readLine_117 : decode cX0_readLine 117 = .ok (.ifCond .eq 7, 3) := by decide +kernel
theorem dX0_readLine_120 : decode cX0_readLine 120 = .ok (.iconst 1, 1) := by decide +kernel
theorem dX0_readLine_121 : decode cX0_readLine 121 = .ok (.goto 4, 3) := by decide +kernel
theorem dX0_readLine_124 : decode cX0_readLine 124 = .ok (.iconst 0, 1) := by decide +kernel
theorem dX0_readLine_125 : decode cX0_readLine 125 = .ok (.ireturn, 1) := by decide +kernel
theorem dX11_book_0 : decode cX11_book 0 = .ok (.iload_n 1, 1) := by decide +kernel
theorem dX11_book_1 : decode cX11_book 1 = .ok (.ifCond .eq 12, 3) := by decide +kernel
theorem dX11_book_4 : decode cX11_book 4 = .ok (.iload_n 1, 1) := by decide +kernel
theorem dX11_book_5 : decode cX11_book 5 = .ok (.iconst 1, 1) := by decide +kernel
theorem dX11_book_6 : decode cX11_book 6 = .ok (.if_icmp .eq 7, 3) := by decide +kernel
theorem dX11_book_9 : decode cX11_book 9 = .ok (.sipush (-1000), 3) := by decide +kernel
theorem dX11_book_12 : decode cX11_book 12 = .ok (.ireturn, 1) := by decide +kernel
theorem dX11_book_13 : decode cX11_book 13 = .ok (.aload_n 0, 1) := by decide +kernel
theorem dX11_book_14 : decode cX11_book 14 = .ok (.getfield 52, 3) := by decide +kernel
theorem dX11_book_17 : decode cX11_book 17 = .ok (.aload_n 0, 1) := by decide +kernel
theorem dX11_book_18 : decode cX11_book 18 = .ok (.getfield 10, 3) := by decide +kernel
theorem dX11_book_21 : decode cX11_book 21 = .ok (.aload_n 0, 1) := by decide +kernel
theorem dX11_book_22 : decode cX11_book 22 = .ok (.getfield 19, 3) := by decide +kernel
theorem dX11_book_25 : decode cX11_book 25 = .ok (.invokevirtual 340, 3) := by decide +kernel
theorem dX11_book_28 : decode cX11_book 28 = .ok (.aload_n 0, 1) := by decide +kernel
theorem dX11_book_29 : decode cX11_book 29 = .ok (.getfield 10, 3) := by decide +kernel
theorem dX11_book_32 : decode cX11_book 32 = .ok (.iconst 0, 1) := by decide +kernel
theorem dX11_book_33 : decode cX11_book 33 = .ok (.putfield 102, 3) := by decide +kernel
theorem dX11_book_36 : decode cX11_book 36 = .ok (.aload_n 0, 1) := by decide +kernel
theorem dX11_book_37 : decode cX11_book 37 = .ok (.getfield 10, 3) := by decide +kernel
theorem dX11_book_40 : decode cX11_book 40 = .ok (.getfield 113, 3) := by decide +kernel
theorem dX11_book_43 : decode cX11_book 43 = .ok (.ifCond .eq 14, 3) := by decide +kernel
theorem dX11_book_46 : decode cX11_book 46 = .ok (.bipush (-2), 2) := by decide +kernel
theorem dX11_book_48 : decode cX11_book 48 = .ok (.aload_n 0, 1) := by decide +kernel
theorem dX11_book_49 : decode cX11_book 49 = .ok (.getfield 10, 3) := by decide +kernel
theorem dX11_book_52 : decode cX11_book 52 = .ok (.getfield 116, 3) := by decide +kernel
theorem dX11_book_55 : decode cX11_book 55 = .ok (.isub, 1) := by decide +kernel
theorem dX11_book_56 : decode cX11_book 56 = .ok (.ireturn, 1) := by decide +kernel
theorem dX11_book_57 : decode cX11_book 57 = .ok (.aload_n 0, 1) := by decide +kernel
theorem dX11_book_58 : decode cX11_book 58 = .ok (.getfield 32, 3) := by decide +kernel
theorem dX11_book_61 : decode cX11_book 61 = .ok (.aload_n 0, 1) := by decide +kernel
theorem dX11_book_62 : decode cX11_book 62 = .ok (.getfield 28, 3) := by decide +kernel
theorem dX11_book_65 : decode cX11_book 65 = .ok (.invokevirtual 126, 3) := by decide +kernel
theorem dX11_book_68 : decode cX11_book 68 = .ok (.aload_n 0, 1) := by decide +kernel
theorem dX11_book_69 : decode cX11_book 69 = .ok (.getfield 52, 3) := by decide +kernel
theorem dX11_book_72 : decode cX11_book 72 = .ok (.aload_n 0, 1) := by decide +kernel
theorem dX11_book_73 : decode cX11_book 73 = .ok (.getfield 32, 3) := by decide +kernel
theorem dX11_book_76 : decode cX11_book 76 = .ok (.invokevirtual 343, 3) := by decide +kernel
theorem dX11_book_79 : decode cX11_book 79 = .ok (.iload_n 1, 1) := by decide +kernel
theorem dX11_book_80 : decode cX11_book 80 = .ok (.iconst 1, 1) := by decide +kernel
theorem dX11_book_81 : decode cX11_book 81 = .ok (.if_icmp .ne 32, 3) := by decide +kernel
theorem dX11_book_84 : decode cX11_book 84 = .ok (.aload_n 0, 1) := by decide +kernel
theorem dX11_book_85 : decode cX11_book 85 = .ok (.getfield 38, 3) := by decide +kernel
theorem dX11_book_88 : decode cX11_book 88 = .ok (.aload_n 0, 1) := by decide +kernel
theorem dX11_book_89 : decode cX11_book 89 = .ok (.getfield 28, 3) := by decide +kernel
theorem dX11_book_92 : decode cX11_book 92 = .ok (.invokevirtual 225, 3) := by decide +kernel
theorem dX11_book_95 : decode cX11_book 95 = .ok (.aload_n 0, 1) := by decide +kernel
theorem dX11_book_96 : decode cX11_book 96 = .ok (.getfield 38, 3) := by decide +kernel
theorem dX11_book_99 : decode cX11_book 99 = .ok (.invokevirtual 260, 3) := by decide +kernel
theorem dX11_book_102 : decode cX11_book 102 = .ok (.aload_n 0, 1) := by decide +kernel
theorem dX11_book_103 : decode cX11_book 103 = .ok (.getfield 28, 3) := by decide +kernel
theorem dX11_book_106 : decode cX11_book 106 = .ok (.aload_n 0, 1) := by decide +kernel
theorem dX11_book_107 : decode cX11_book 107 = .ok (.getfield 32, 3) := by decide +kernel
theorem dX11_book_110 : decode cX11_book 110 = .ok (.invokevirtual 126, 3) := by decide +kernel
theorem dX11_book_113 : decode cX11_book 113 = .ok (.aload_n 0, 1) := by decide +kernel
theorem dX11_book_114 : decode cX11_book 114 = .ok (.getfield 52, 3) := by decide +kernel
theorem dX11_book_117 : decode cX11_book 117 = .ok (.getfield 346, 3) := by decide +kernel
theorem dX11_book_120 : decode cX11_book 120 = .ok (.ifCond .ne 7, 3) := by decide +kernel
theorem dX11_book_123 : decode cX11_book 123 = .ok (.iconst (-1), 1) := by decide +kernel
theorem dX11_book_124 : decode cX11_book 124 = .ok (.goto 10, 3) := by decide +kernel
theorem dX11_book_127 : decode cX11_book 127 = .ok (.aload_n 0, 1) := by decide +kernel
theorem dX11_book_128 : decode cX11_book 128 = .ok (.getfield 52, 3) := by decide +kernel
theorem dX11_book_131 : decode cX11_book 131 = .ok (.getfield 349, 3) := by decide +kernel
theorem dX11_book_134 : decode cX11_book 134 = .ok (.ireturn, 1) := by decide +kernel
theorem dX11_told_0 : decode cX11_told 0 = .ok (.aload_n 0, 1) := by decide +kernel
theorem dX11_told_1 : decode cX11_told 1 = .ok (.getfield 52, 3) := by decide +kernel
theorem dX11_told_4 : decode cX11_told 4 = .ok (.getfield 352, 3) := by decide +kernel
theorem dX11_told_7 : decode cX11_told 7 = .ok (.ifCond .ne 5, 3) := by decide +kernel
theorem dX11_told_10 : decode cX11_told 10 = .ok (.iconst (-1), 1) := by decide +kernel
theorem dX11_told_11 : decode cX11_told 11 = .ok (.ireturn, 1) := by decide +kernel
theorem dX11_told_12 : decode cX11_told 12 = .ok (.iload_n 1, 1) := by decide +kernel
theorem dX11_told_13 : decode cX11_told 13 = .ok (.tableswitch 63 0 3 #[31, 39, 47, 55], 31) := by decide +kernel
theorem dX11_told_44 : decode cX11_told 44 = .ok (.aload_n 0, 1) := by decide +kernel
theorem dX11_told_45 : decode cX11_told 45 = .ok (.getfield 52, 3) := by decide +kernel
theorem dX11_told_48 : decode cX11_told 48 = .ok (.getfield 346, 3) := by decide +kernel
theorem dX11_told_51 : decode cX11_told 51 = .ok (.ireturn, 1) := by decide +kernel
theorem dX11_told_52 : decode cX11_told 52 = .ok (.aload_n 0, 1) := by decide +kernel
theorem dX11_told_53 : decode cX11_told 53 = .ok (.getfield 52, 3) := by decide +kernel
theorem dX11_told_56 : decode cX11_told 56 = .ok (.getfield 349, 3) := by decide +kernel
theorem dX11_told_59 : decode cX11_told 59 = .ok (.ireturn, 1) := by decide +kernel
theorem dX11_told_60 : decode cX11_told 60 = .ok (.aload_n 0, 1) := by decide +kernel
theorem dX11_told_61 : decode cX11_told 61 = .ok (.getfield 52, 3) := by decide +kernel
theorem dX11_told_64 : decode cX11_told 64 = .ok (.getfield 356, 3) := by decide +kernel
theorem dX11_told_67 : decode cX11_told 67 = .ok (.ireturn, 1) := by decide +kernel
theorem dX11_told_68 : decode cX11_told 68 = .ok (.aload_n 0, 1) := by decide +kernel
theorem dX11_told_69 : decode cX11_told 69 = .ok (.getfield 52, 3) := by decide +kernel
theorem dX11_told_72 : decode cX11_told 72 = .ok (.getfield 359, 3) := by decide +kernel
theorem dX11_told_75 : decode cX11_told 75 = .ok (.ireturn, 1) := by decide +kernel
theorem dX11_told_76 : decode cX11_told 76 = .ok (.iconst (-1), 1) := by decide +kernel
theorem dX11_told_77 : decode cX11_told 77 = .ok (.ireturn, 1) := by decide +kernel
theorem dX7_addStep_0 : decode cX7_addStep 0 = .ok (.aload_n 0, 1) := by decide +kernel
theorem dX7_addStep_1 : decode cX7_addStep 1 = .ok (.getfield 24, 3) := by decide +kernel
theorem dX7_addStep_4 : decode cX7_addStep 4 = .ok (.bipush 40, 2) := by decide +kernel
theorem dX7_addStep_6 : decode cX7_addStep 6 = .ok (.if_icmp .lt 5, 3) := by decide +kernel
theorem dX7_addStep_9 : decode cX7_addStep 9 = .ok (.iconst 0, 1) := by decide +kernel
theorem dX7_addStep_10 : decode cX7_addStep 10 = .ok (.ireturn, 1) := by decide +kernel
theorem dX7_addStep_11 : decode cX7_addStep 11 = .ok (.aload_n 0, 1) := by decide +kernel
theorem dX7_addStep_12 : decode cX7_addStep 12 = .ok (.getfield 11, 3) := by decide +kernel
theorem dX7_addStep_15 : decode cX7_addStep 15 = .ok (.aload_n 0, 1) := by decide +kernel
theorem dX7_addStep_16 : decode cX7_addStep 16 = .ok (.getfield 24, 3) := by decide +kernel
theorem dX7_addStep_19 : decode cX7_addStep 19 = .ok (.iload_n 1, 1) := by decide +kernel
theorem dX7_addStep_20 : decode cX7_addStep 20 = .ok (.iastore, 1) := by decide +kernel
theorem dX7_addStep_21 : decode cX7_addStep 21 = .ok (.aload_n 0, 1) := by decide +kernel
theorem dX7_addStep_22 : decode cX7_addStep 22 = .ok (.getfield 15, 3) := by decide +kernel
theorem dX7_addStep_25 : decode cX7_addStep 25 = .ok (.aload_n 0, 1) := by decide +kernel
theorem dX7_addStep_26 : decode cX7_addStep 26 = .ok (.getfield 24, 3) := by decide +kernel
theorem dX7_addStep_29 : decode cX7_addStep 29 = .ok (.iload_n 2, 1) := by decide +kernel
theorem dX7_addStep_30 : decode cX7_addStep 30 = .ok (.iastore, 1) := by decide +kernel
theorem dX7_addStep_31 : decode cX7_addStep 31 = .ok (.aload_n 0, 1) := by decide +kernel
theorem dX7_addStep_32 : decode cX7_addStep 32 = .ok (.getfield 18, 3) := by decide +kernel
theorem dX7_addStep_35 : decode cX7_addStep 35 = .ok (.aload_n 0, 1) := by decide +kernel
theorem dX7_addStep_36 : decode cX7_addStep 36 = .ok (.getfield 24, 3) := by decide +kernel
theorem dX7_addStep_39 : decode cX7_addStep 39 = .ok (.iload_n 3, 1) := by decide +kernel
theorem dX7_addStep_40 : decode cX7_addStep 40 = .ok (.iastore, 1) := by decide +kernel
theorem dX7_addStep_41 : decode cX7_addStep 41 = .ok (.aload_n 0, 1) := by decide +kernel
theorem dX7_addStep_42 : decode cX7_addStep 42 = .ok (.dup, 1) := by decide +kernel
theorem dX7_addStep_43 : decode cX7_addStep 43 = .ok (.getfield 24, 3) := by decide +kernel
theorem dX7_addStep_46 : decode cX7_addStep 46 = .ok (.iconst 1, 1) := by decide +kernel
theorem dX7_addStep_47 : decode cX7_addStep 47 = .ok (.iadd, 1) := by decide +kernel
theorem dX7_addStep_48 : decode cX7_addStep 48 = .ok (.putfield 24, 3) := by decide +kernel
theorem dX7_addStep_51 : decode cX7_addStep 51 = .ok (.iconst 1, 1) := by decide +kernel
theorem dX7_addStep_52 : decode cX7_addStep 52 = .ok (.ireturn, 1) := by decide +kernel
theorem dX7_become_0 : decode cX7_become 0 = .ok (.aload_n 1, 1) := by decide +kernel
theorem dX7_become_1 : decode cX7_become 1 = .ok (.getfield 11, 3) := by decide +kernel
theorem dX7_become_4 : decode cX7_become 4 = .ok (.iconst 0, 1) := by decide +kernel
theorem dX7_become_5 : decode cX7_become 5 = .ok (.aload_n 0, 1) := by decide +kernel
theorem dX7_become_6 : decode cX7_become 6 = .ok (.getfield 11, 3) := by decide +kernel
theorem dX7_become_9 : decode cX7_become 9 = .ok (.iconst 0, 1) := by decide +kernel
theorem dX7_become_10 : decode cX7_become 10 = .ok (.bipush 40, 2) := by decide +kernel
theorem dX7_become_12 : decode cX7_become 12 = .ok (.invokestatic 31, 3) := by decide +kernel
theorem dX7_become_15 : decode cX7_become 15 = .ok (.aload_n 1, 1) := by decide +kernel
theorem dX7_become_16 : decode cX7_become 16 = .ok (.getfield 15, 3) := by decide +kernel
theorem dX7_become_19 : decode cX7_become 19 = .ok (.iconst 0, 1) := by decide +kernel
theorem dX7_become_20 : decode cX7_become 20 = .ok (.aload_n 0, 1) := by decide +kernel
theorem dX7_become_21 : decode cX7_become 21 = .ok (.getfield 15, 3) := by decide +kernel
theorem dX7_become_24 : decode cX7_become 24 = .ok (.iconst 0, 1) := by decide +kernel
theorem dX7_become_25 : decode cX7_become 25 = .ok (.bipush 40, 2) := by decide +kernel
theorem dX7_become_27 : decode cX7_become 27 = .ok (.invokestatic 31, 3) := by decide +kernel
theorem dX7_become_30 : decode cX7_become 30 = .ok (.aload_n 1, 1) := by decide +kernel
theorem dX7_become_31 : decode cX7_become 31 = .ok (.getfield 18, 3) := by decide +kernel
theorem dX7_become_34 : decode cX7_become 34 = .ok (.iconst 0, 1) := by decide +kernel
theorem dX7_become_35 : decode cX7_become 35 = .ok (.aload_n 0, 1) := by decide +kernel
theorem dX7_become_36 : decode cX7_become 36 = .ok (.getfield 18, 3) := by decide +kernel
theorem dX7_become_39 : decode cX7_become 39 = .ok (.iconst 0, 1) := by decide +kernel
theorem dX7_become_40 : decode cX7_become 40 = .ok (.bipush 40, 2) := by decide +kernel
theorem dX7_become_42 : decode cX7_become 42 = .ok (.invokestatic 31, 3) := by decide +kernel
theorem dX7_become_45 : decode cX7_become 45 = .ok (.aload_n 0, 1) := by decide +kernel
theorem dX7_become_46 : decode cX7_become 46 = .ok (.aload_n 1, 1) := by decide +kernel
theorem dX7_become_47 : decode cX7_become 47 = .ok (.getfield 24, 3) := by decide +kernel
theorem dX7_become_50 : decode cX7_become 50 = .ok (.putfield 24, 3) := by decide +kernel
theorem dX7_become_53 : decode cX7_become 53 = .ok (.aload_n 0, 1) := by decide +kernel
theorem dX7_become_54 : decode cX7_become 54 = .ok (.aload_n 1, 1) := by decide +kernel
theorem dX7_become_55 : decode cX7_become 55 = .ok (.getfield 28, 3) := by decide +kernel
theorem dX7_become_58 : decode cX7_become 58 = .ok (.putfield 28, 3) := by decide +kernel
theorem dX7_become_61 : decode cX7_become 61 = .ok (.return_, 1) := by decide +kernel
theorem dX7_beginsOne_0 : decode cX7_beginsOne 0 = .ok (.iload_n 0, 1) := by decide +kernel
theorem dX7_beginsOne_1 : decode cX7_beginsOne 1 = .ok (.bipush 40, 2) := by decide +kernel
theorem dX7_beginsOne_3 : decode cX7_beginsOne 3 = .ok (.if_icmp .eq 20, 3) := by decide +kernel
theorem dX7_beginsOne_6 : decode cX7_beginsOne 6 = .ok (.iload_n 0, 1) := by decide +kernel
theorem dX7_beginsOne_7 : decode cX7_beginsOne 7 = .ok (.iconst 5, 1) := by decide +kernel
theorem dX7_beginsOne_8 : decode cX7_beginsOne 8 = .ok (.if_icmp .eq 15, 3) := by decide +kernel
theorem dX7_beginsOne_11 : decode cX7_beginsOne 11 = .ok (.iload_n 0, 1) := by decide +kernel
theorem dX7_beginsOne_12 : decode cX7_beginsOne 12 = .ok (.bipush 19, 2) := by decide +kernel
theorem dX7_beginsOne_14 : decode cX7_beginsOne 14 = .ok (.if_icmp .lt 13, 3) := by decide +kernel
theorem dX7_beginsOne_17 : decode cX7_beginsOne 17 = .ok (.iload_n 0, 1) := by decide +kernel
theorem dX7_beginsOne_18 : decode cX7_beginsOne 18 = .ok (.bipush 27, 2) := by decide +kernel
theorem dX7_beginsOne_20 : decode cX7_beginsOne 20 = .ok (.if_icmp .gt 7, 3) := by decide +kernel
theorem dX7_beginsOne_23 : decode cX7_beginsOne 23 = .ok (.iconst 1, 1) := by decide +kernel
theorem dX7_beginsOne_24 : decode cX7_beginsOne 24 = .ok (.goto 4, 3) := by decide +kernel
theorem dX7_beginsOne_27 : decode cX7_beginsOne 27 = .ok (.iconst 0, 1) := by decide +kernel
theorem dX7_beginsOne_28 : decode cX7_beginsOne 28 = .ok (.ireturn, 1) := by decide +kernel
theorem dX7_readAll_0 : decode cX7_readAll 0 = .ok (.aload_n 0, 1) := by decide +kernel
theorem dX7_readAll_1 : decode cX7_readAll 1 = .ok (.aload_n 1, 1) := by decide +kernel
theorem dX7_readAll_2 : decode cX7_readAll 2 = .ok (.aload_n 2, 1) := by decide +kernel
theorem dX7_readAll_3 : decode cX7_readAll 3 = .ok (.iload_n 3, 1) := by decide +kernel
theorem dX7_readAll_4 : decode cX7_readAll 4 = .ok (.invokevirtual 67, 3) := by decide +kernel
theorem dX7_readAll_7 : decode cX7_readAll 7 = .ok (.istore 4, 2) := by decide +kernel
theorem dX7_readAll_9 : decode cX7_readAll 9 = .ok (.iconst 0, 1) := by decide +kernel
theorem dX7_readAll_10 : decode cX7_readAll 10 = .ok (.istore 5, 2) := by decide +kernel
theorem dX7_readAll_12 : decode cX7_readAll 12 = .ok (.iload 5, 2) := by decide +kernel
theorem dX7_readAll_14 : decode cX7_readAll 14 = .ok (.bipush 20, 2) := by decide +kernel
theorem dX7_readAll_16 : decode cX7_readAll 16 = .ok (.if_icmp .ge 55, 3) := by decide +kernel
theorem dX7_readAll_19 : decode cX7_readAll 19 = .ok (.iload 4, 2) := by decide +kernel
theorem dX7_readAll_21 : decode cX7_readAll 21 = .ok (.ifCond .eq 50, 3) := by decide +kernel
theorem dX7_readAll_24 : decode cX7_readAll 24 = .ok (.aload_n 1, 1) := by decide +kernel
theorem dX7_readAll_25 : decode cX7_readAll 25 = .ok (.getfield 57, 3) := by decide +kernel
theorem dX7_readAll_28 : decode cX7_readAll 28 = .ok (.bipush 18, 2) := by decide +kernel
theorem dX7_readAll_30 : decode cX7_readAll 30 = .ok (.if_icmp .ne 41, 3) := by decide +kernel
theorem dX7_readAll_33 : decode cX7_readAll 33 = .ok (.aload_n 1, 1) := by decide +kernel
theorem dX7_readAll_34 : decode cX7_readAll 34 = .ok (.invokevirtual 60, 3) := by decide +kernel
theorem dX7_readAll_37 : decode cX7_readAll 37 = .ok (.aload_n 0, 1) := by decide +kernel
theorem dX7_readAll_38 : decode cX7_readAll 38 = .ok (.aload_n 1, 1) := by decide +kernel
theorem dX7_readAll_39 : decode cX7_readAll 39 = .ok (.aload_n 2, 1) := by decide +kernel
theorem dX7_readAll_40 : decode cX7_readAll 40 = .ok (.iload_n 3, 1) := by decide +kernel
theorem dX7_readAll_41 : decode cX7_readAll 41 = .ok (.invokevirtual 67, 3) := by decide +kernel
theorem dX7_readAll_44 : decode cX7_readAll 44 = .ok (.ifCond .eq 18, 3) := by decide +kernel
theorem dX7_readAll_47 : decode cX7_readAll 47 = .ok (.aload_n 0, 1) := by decide +kernel
theorem dX7_readAll_48 : decode cX7_readAll 48 = .ok (.bipush 18, 2) := by decide +kernel
theorem dX7_readAll_50 : decode cX7_readAll 50 = .ok (.iconst 0, 1) := by decide +kernel
theorem dX7_readAll_51 : decode cX7_readAll 51 = .ok (.iconst 0, 1) := by decide +kernel
theorem dX7_readAll_52 : decode cX7_readAll 52 = .ok (.invokevirtual 63, 3) := by decide +kernel
theorem dX7_readAll_55 : decode cX7_readAll 55 = .ok (.ifCond .eq 7, 3) := by decide +kernel
theorem dX7_readAll_58 : decode cX7_readAll 58 = .ok (.iconst 1, 1) := by decide +kernel
theorem dX7_readAll_59 : decode cX7_readAll 59 = .ok (.goto 4, 3) := by decide +kernel
theorem dX7_readAll_62 : decode cX7_readAll 62 = .ok (.iconst 0, 1) := by decide +kernel
theorem dX7_readAll_63 : decode cX7_readAll 63 = .ok (.istore 4, 2) := by decide +kernel
theorem dX7_readAll_65 : decode cX7_readAll 65 = .ok (.iinc 5 1, 3) := by decide +kernel
theorem dX7_readAll_68 : decode cX7_readAll 68 = .ok (.goto (-56), 3) := by decide +kernel
theorem dX7_readAll_71 : decode cX7_readAll 71 = .ok (.iload 4, 2) := by decide +kernel
theorem dX7_readAll_73 : decode cX7_readAll 73 = .ok (.ireturn, 1) := by decide +kernel
theorem dX7_readCond_0 : decode cX7_readCond 0 = .ok (.aload_n 0, 1) := by decide +kernel
theorem dX7_readCond_1 : decode cX7_readCond 1 = .ok (.aload_n 1, 1) := by decide +kernel
theorem dX7_readCond_2 : decode cX7_readCond 2 = .ok (.aload_n 2, 1) := by decide +kernel
theorem dX7_readCond_3 : decode cX7_readCond 3 = .ok (.iload_n 3, 1) := by decide +kernel
theorem dX7_readCond_4 : decode cX7_readCond 4 = .ok (.invokevirtual 54, 3) := by decide +kernel
theorem dX7_readCond_7 : decode cX7_readCond 7 = .ok (.istore 4, 2) := by decide +kernel
theorem dX7_readCond_9 : decode cX7_readCond 9 = .ok (.iconst 0, 1) := by decide +kernel
theorem dX7_readCond_10 : decode cX7_readCond 10 = .ok (.istore 5, 2) := by decide +kernel
theorem dX7_readCond_12 : decode cX7_readCond 12 = .ok (.iload 5, 2) := by decide +kernel
theorem dX7_readCond_14 : decode cX7_readCond 14 = .ok (.bipush 20, 2) := by decide +kernel
theorem dX7_readCond_16 : decode cX7_readCond 16 = .ok (.if_icmp .ge 55, 3) := by decide +kernel
theorem dX7_readCond_19 : decode cX7_readCond 19 = .ok (.iload 4, 2) := by decide +kernel
theorem dX7_readCond_21 : decode cX7_readCond 21 = .ok (.ifCond .eq 50, 3) := by decide +kernel
theorem dX7_readCond_24 : decode cX7_readCond 24 = .ok (.aload_n 1, 1) := by decide +kernel
theorem dX7_readCond_25 : decode cX7_readCond 25 = .ok (.getfield 57, 3) := by decide +kernel
theorem dX7_readCond_28 : decode cX7_readCond 28 = .ok (.bipush 17, 2) := by decide +kernel
theorem dX7_readCond_30 : decode cX7_readCond 30 = .ok (.if_icmp .ne 41, 3) := by decide +kernel
theorem dX7_readCond_33 : decode cX7_readCond 33 = .ok (.aload_n 1, 1) := by decide +kernel
theorem dX7_readCond_34 : decode cX7_readCond 34 = .ok (.invokevirtual 60, 3) := by decide +kernel
theorem dX7_readCond_37 : decode cX7_readCond 37 = .ok (.aload_n 0, 1) := by decide +kernel
theorem dX7_readCond_38 : decode cX7_readCond 38 = .ok (.aload_n 1, 1) := by decide +kernel
theorem dX7_readCond_39 : decode cX7_readCond 39 = .ok (.aload_n 2, 1) := by decide +kernel
theorem dX7_readCond_40 : decode cX7_readCond 40 = .ok (.iload_n 3, 1) := by decide +kernel
theorem dX7_readCond_41 : decode cX7_readCond 41 = .ok (.invokevirtual 54, 3) := by decide +kernel
theorem dX7_readCond_44 : decode cX7_readCond 44 = .ok (.ifCond .eq 18, 3) := by decide +kernel
theorem dX7_readCond_47 : decode cX7_readCond 47 = .ok (.aload_n 0, 1) := by decide +kernel
theorem dX7_readCond_48 : decode cX7_readCond 48 = .ok (.bipush 17, 2) := by decide +kernel
theorem dX7_readCond_50 : decode cX7_readCond 50 = .ok (.iconst 0, 1) := by decide +kernel
theorem dX7_readCond_51 : decode cX7_readCond 51 = .ok (.iconst 0, 1) := by decide +kernel
theorem dX7_readCond_52 : decode cX7_readCond 52 = .ok (.invokevirtual 63, 3) := by decide +kernel
theorem dX7_readCond_55 : decode cX7_readCond 55 = .ok (.ifCond .eq 7, 3) := by decide +kernel
theorem dX7_readCond_58 : decode cX7_readCond 58 = .ok (.iconst 1, 1) := by decide +kernel
theorem dX7_readCond_59 : decode cX7_readCond 59 = .ok (.goto 4, 3) := by decide +kernel
theorem dX7_readCond_62 : decode cX7_readCond 62 = .ok (.iconst 0, 1) := by decide +kernel
theorem dX7_readCond_63 : decode cX7_readCond 63 = .ok (.istore 4, 2) := by decide +kernel
theorem dX7_readCond_65 : decode cX7_readCond 65 = .ok (.iinc 5 1, 3) := by decide +kernel
theorem dX7_readCond_68 : decode cX7_readCond 68 = .ok (.goto (-56), 3) := by decide +kernel
theorem dX7_readCond_71 : decode cX7_readCond 71 = .ok (.iload 4, 2) := by decide +kernel
theorem dX7_readCond_73 : decode cX7_readCond 73 = .ok (.ireturn, 1) := by decide +kernel
theorem dX7_readOne_0 : decode cX7_readOne 0 = .ok (.aload_n 1, 1) := by decide +kernel
theorem dX7_readOne_1 : decode cX7_readOne 1 = .ok (.getfield 57, 3) := by decide +kernel
theorem dX7_readOne_4 : decode cX7_readOne 4 = .ok (.istore 4, 2) := by decide +kernel
theorem dX7_readOne_6 : decode cX7_readOne 6 = .ok (.iload 4, 2) := by decide +kernel
theorem dX7_readOne_8 : decode cX7_readOne 8 = .ok (.invokestatic 70, 3) := by decide +kernel
theorem dX7_readOne_11 : decode cX7_readOne 11 = .ok (.ifCond .ne 9, 3) := by decide +kernel
theorem dX7_readOne_14 : decode cX7_readOne 14 = .ok (.aload_n 1, 1) := by decide +kernel
theorem dX7_readOne_15 : decode cX7_readOne 15 = .ok (.iconst 1, 1) := by decide +kernel
theorem dX7_readOne_16 : decode cX7_readOne 16 = .ok (.invokevirtual 73, 3) := by decide +kernel
theorem dX7_readOne_19 : decode cX7_readOne 19 = .ok (.ireturn, 1) := by decide +kernel
theorem dX7_readOne_20 : decode cX7_readOne 20 = .ok (.aload_n 0, 1) := by decide +kernel
theorem dX7_readOne_21 : decode cX7_readOne 21 = .ok (.getfield 28, 3) := by decide +kernel
theorem dX7_readOne_24 : decode cX7_readOne 24 = .ok (.bipush 20, 2) := by decide +kernel
theorem dX7_readOne_26 : decode cX7_readOne 26 = .ok (.if_icmp .ge 9, 3) := by decide +kernel
theorem dX7_readOne_29 : decode cX7_readOne 29 = .ok (.iload_n 3, 1) := by decide +kernel
theorem dX7_readOne_30 : decode cX7_readOne 30 = .ok (.bipush 8, 2) := by decide +kernel
theorem dX7_readOne_32 : decode cX7_readOne 32 = .ok (.if_icmp .le 9, 3) := by decide +kernel
theorem dX7_readOne_35 : decode cX7_readOne 35 = .ok (.aload_n 1, 1) := by decide +kernel
theorem dX7_readOne_36 : decode cX7_readOne 36 = .ok (.iconst 4, 1) := by decide +kernel
theorem dX7_readOne_37 : decode cX7_readOne 37 = .ok (.invokevirtual 73, 3) := by decide +kernel
theorem dX7_readOne_40 : decode cX7_readOne 40 = .ok (.ireturn, 1) := by decide +kernel
theorem dX7_readOne_41 : decode cX7_readOne 41 = .ok (.aload_n 0, 1) := by decide +kernel
theorem dX7_readOne_42 : decode cX7_readOne 42 = .ok (.dup, 1) := by decide +kernel
theorem dX7_readOne_43 : decode cX7_readOne 43 = .ok (.getfield 28, 3) := by decide +kernel
theorem dX7_readOne_46 : decode cX7_readOne 46 = .ok (.iconst 1, 1) := by decide +kernel
theorem dX7_readOne_47 : decode cX7_readOne 47 = .ok (.iadd, 1) := by decide +kernel
theorem dX7_readOne_48 : decode cX7_readOne 48 = .ok (.putfield 28, 3) := by decide +kernel
theorem dX7_readOne_51 : decode cX7_readOne 51 = .ok (.aload_n 1, 1) := by decide +kernel
theorem dX7_readOne_52 : decode cX7_readOne 52 = .ok (.invokevirtual 60, 3) := by decide +kernel
theorem dX7_readOne_55 : decode cX7_readOne 55 = .ok (.iload 4, 2) := by decide +kernel
theorem dX7_readOne_57 : decode cX7_readOne 57 = .ok (.bipush 40, 2) := by decide +kernel
theorem dX7_readOne_59 : decode cX7_readOne 59 = .ok (.if_icmp .ne 30, 3) := by decide +kernel
theorem dX7_readOne_62 : decode cX7_readOne 62 = .ok (.aload_n 0, 1) := by decide +kernel
theorem dX7_readOne_63 : decode cX7_readOne 63 = .ok (.aload_n 1, 1) := by decide +kernel
theorem dX7_readOne_64 : decode cX7_readOne 64 = .ok (.aload_n 2, 1) := by decide +kernel
theorem dX7_readOne_65 : decode cX7_readOne 65 = .ok (.iload_n 3, 1) := by decide +kernel
theorem dX7_readOne_66 : decode cX7_readOne 66 = .ok (.iconst 1, 1) := by decide +kernel
theorem dX7_readOne_67 : decode cX7_readOne 67 = .ok (.iadd, 1) := by decide +kernel
theorem dX7_readOne_68 : decode cX7_readOne 68 = .ok (.invokevirtual 46, 3) := by decide +kernel
theorem dX7_readOne_71 : decode cX7_readOne 71 = .ok (.ifCond .eq 16, 3) := by decide +kernel
theorem dX7_readOne_87 : decode cX7_readOne 87 = .ok (.iconst 0, 1) := by decide +kernel
theorem dX7_readOne_88 : decode cX7_readOne 88 = .ok (.ireturn, 1) := by decide +kernel
theorem dX7_readOne_89 : decode cX7_readOne 89 = .ok (.iload 4, 2) := by decide +kernel
theorem dX7_readOne_91 : decode cX7_readOne 91 = .ok (.bipush 19, 2) := by decide +kernel
theorem dX7_readOne_93 : decode cX7_readOne 93 = .ok (.if_icmp .ne 32, 3) := by decide +kernel
theorem dX7_readOne_96 : decode cX7_readOne 96 = .ok (.aload_n 0, 1) := by decide +kernel
theorem dX7_readOne_97 : decode cX7_readOne 97 = .ok (.aload_n 1, 1) := by decide +kernel
theorem dX7_readOne_98 : decode cX7_readOne 98 = .ok (.aload_n 2, 1) := by decide +kernel
theorem dX7_readOne_99 : decode cX7_readOne 99 = .ok (.iload_n 3, 1) := by decide +kernel
theorem dX7_readOne_100 : decode cX7_readOne 100 = .ok (.iconst 1, 1) := by decide +kernel
theorem dX7_readOne_101 : decode cX7_readOne 101 = .ok (.iadd, 1) := by decide +kernel
theorem dX7_readOne_102 : decode cX7_readOne 102 = .ok (.invokevirtual 67, 3) := by decide +kernel
theorem dX7_readOne_105 : decode cX7_readOne 105 = .ok (.ifCond .eq 18, 3) := by decide +kernel
theorem dX7_readOne_123 : decode cX7_readOne 123 = .ok (.iconst 0, 1) := by decide +kernel
theorem dX7_readOne_124 : decode cX7_readOne 124 = .ok (.ireturn, 1) := by decide +kernel
theorem dX7_readOne_125 : decode cX7_readOne 125 = .ok (.aload_n 0, 1) := by decide +kernel
theorem dX7_readOne_126 : decode cX7_readOne 126 = .ok (.aload_n 1, 1) := by decide +kernel
theorem dX7_readOne_127 : decode cX7_readOne 127 = .ok (.aload_n 2, 1) := by decide +kernel
theorem dX7_readOne_128 : decode cX7_readOne 128 = .ok (.iload 4, 2) := by decide +kernel
theorem dX7_readOne_130 : decode cX7_readOne 130 = .ok (.invokevirtual 76, 3) := by decide +kernel
theorem dX7_readOne_133 : decode cX7_readOne 133 = .ok (.ireturn, 1) := by decide +kernel
theorem dX7_readPlainOne_0 : decode cX7_readPlainOne 0 = .ok (.iload_n 3, 1) := by decide +kernel
theorem dX7_readPlainOne_1 : decode cX7_readPlainOne 1 = .ok (.iconst 5, 1) := by decide +kernel
theorem dX7_readPlainOne_2 : decode cX7_readPlainOne 2 = .ok (.if_icmp .ne 40, 3) := by decide +kernel
theorem dX7_readPlainOne_5 : decode cX7_readPlainOne 5 = .ok (.aload_n 1, 1) := by decide +kernel
theorem dX7_readPlainOne_6 : decode cX7_readPlainOne 6 = .ok (.aload_n 2, 1) := by decide +kernel
theorem dX7_readPlainOne_7 : decode cX7_readPlainOne 7 = .ok (.aload_n 1, 1) := by decide +kernel
theorem dX7_readPlainOne_8 : decode cX7_readPlainOne 8 = .ok (.getfield 79, 3) := by decide +kernel
theorem dX7_readPlainOne_11 : decode cX7_readPlainOne 11 = .ok (.invokevirtual 83, 3) := by decide +kernel
theorem dX7_readPlainOne_14 : decode cX7_readPlainOne 14 = .ok (.invokevirtual 89, 3) := by decide +kernel
theorem dX7_readPlainOne_17 : decode cX7_readPlainOne 17 = .ok (.istore 4, 2) := by decide +kernel
theorem dX7_readPlainOne_19 : decode cX7_readPlainOne 19 = .ok (.iload 4, 2) := by decide +kernel
theorem dX7_readPlainOne_21 : decode cX7_readPlainOne 21 = .ok (.iconst (-1), 1) := by decide +kernel
theorem dX7_readPlainOne_22 : decode cX7_readPlainOne 22 = .ok (.if_icmp .eq 18, 3) := by decide +kernel
theorem dX7_readPlainOne_25 : decode cX7_readPlainOne 25 = .ok (.aload_n 0, 1) := by decide +kernel
theorem dX7_readPlainOne_26 : decode cX7_readPlainOne 26 = .ok (.iload_n 3, 1) := by decide +kernel
theorem dX7_readPlainOne_27 : decode cX7_readPlainOne 27 = .ok (.iconst 0, 1) := by decide +kernel
theorem dX7_readPlainOne_28 : decode cX7_readPlainOne 28 = .ok (.iload 4, 2) := by decide +kernel
theorem dX7_readPlainOne_30 : decode cX7_readPlainOne 30 = .ok (.invokevirtual 63, 3) := by decide +kernel
theorem dX7_readPlainOne_33 : decode cX7_readPlainOne 33 = .ok (.ifCond .eq 7, 3) := by decide +kernel
theorem dX7_readPlainOne_36 : decode cX7_readPlainOne 36 = .ok (.iconst 1, 1) := by decide +kernel
theorem dX7_readPlainOne_37 : decode cX7_readPlainOne 37 = .ok (.goto 4, 3) := by decide +kernel
theorem dX7_readPlainOne_40 : decode cX7_readPlainOne 40 = .ok (.iconst 0, 1) := by decide +kernel
theorem dX7_readPlainOne_41 : decode cX7_readPlainOne 41 = .ok (.ireturn, 1) := by decide +kernel
theorem dX7_readPlainOne_42 : decode cX7_readPlainOne 42 = .ok (.iload_n 3, 1) := by decide +kernel
theorem dX7_readPlainOne_43 : decode cX7_readPlainOne 43 = .ok (.bipush 23, 2) := by decide +kernel
theorem dX7_readPlainOne_45 : decode cX7_readPlainOne 45 = .ok (.if_icmp .ne 40, 3) := by decide +kernel
theorem dX7_readPlainOne_48 : decode cX7_readPlainOne 48 = .ok (.aload_n 1, 1) := by decide +kernel
theorem dX7_readPlainOne_49 : decode cX7_readPlainOne 49 = .ok (.aload_n 2, 1) := by decide +kernel
theorem dX7_readPlainOne_50 : decode cX7_readPlainOne 50 = .ok (.aload_n 1, 1) := by decide +kernel
theorem dX7_readPlainOne_51 : decode cX7_readPlainOne 51 = .ok (.getfield 79, 3) := by decide +kernel
theorem dX7_readPlainOne_54 : decode cX7_readPlainOne 54 = .ok (.invokevirtual 93, 3) := by decide +kernel
theorem dX7_readPlainOne_57 : decode cX7_readPlainOne 57 = .ok (.invokevirtual 89, 3) := by decide +kernel
theorem dX7_readPlainOne_60 : decode cX7_readPlainOne 60 = .ok (.istore 4, 2) := by decide +kernel
theorem dX7_readPlainOne_62 : decode cX7_readPlainOne 62 = .ok (.iload 4, 2) := by decide +kernel
theorem dX7_readPlainOne_64 : decode cX7_readPlainOne 64 = .ok (.iconst (-1), 1) := by decide +kernel
theorem dX7_readPlainOne_65 : decode cX7_readPlainOne 65 = .ok (.if_icmp .eq 18, 3) := by decide +kernel
theorem dX7_readPlainOne_68 : decode cX7_readPlainOne 68 = .ok (.aload_n 0, 1) := by decide +kernel
theorem dX7_readPlainOne_69 : decode cX7_readPlainOne 69 = .ok (.iload_n 3, 1) := by decide +kernel
theorem dX7_readPlainOne_70 : decode cX7_readPlainOne 70 = .ok (.iconst 0, 1) := by decide +kernel
theorem dX7_readPlainOne_71 : decode cX7_readPlainOne 71 = .ok (.iload 4, 2) := by decide +kernel
theorem dX7_readPlainOne_73 : decode cX7_readPlainOne 73 = .ok (.invokevirtual 63, 3) := by decide +kernel
theorem dX7_readPlainOne_76 : decode cX7_readPlainOne 76 = .ok (.ifCond .eq 7, 3) := by decide +kernel
theorem dX7_readPlainOne_79 : decode cX7_readPlainOne 79 = .ok (.iconst 1, 1) := by decide +kernel
theorem dX7_readPlainOne_80 : decode cX7_readPlainOne 80 = .ok (.goto 4, 3) := by decide +kernel
theorem dX7_readPlainOne_83 : decode cX7_readPlainOne 83 = .ok (.iconst 0, 1) := by decide +kernel
theorem dX7_readPlainOne_84 : decode cX7_readPlainOne 84 = .ok (.ireturn, 1) := by decide +kernel
theorem dX7_readPlainOne_85 : decode cX7_readPlainOne 85 = .ok (.iload_n 3, 1) := by decide +kernel
theorem dX7_readPlainOne_86 : decode cX7_readPlainOne 86 = .ok (.bipush 23, 2) := by decide +kernel
theorem dX7_readPlainOne_88 : decode cX7_readPlainOne 88 = .ok (.if_icmp .ge 11, 3) := by decide +kernel
theorem dX7_readPlainOne_91 : decode cX7_readPlainOne 91 = .ok (.aload_n 0, 1) := by decide +kernel
theorem dX7_readPlainOne_92 : decode cX7_readPlainOne 92 = .ok (.iload_n 3, 1) := by decide +kernel
theorem dX7_readPlainOne_93 : decode cX7_readPlainOne 93 = .ok (.iconst 0, 1) := by decide +kernel
theorem dX7_readPlainOne_94 : decode cX7_readPlainOne 94 = .ok (.iconst 0, 1) := by decide +kernel
theorem dX7_readPlainOne_95 : decode cX7_readPlainOne 95 = .ok (.invokevirtual 63, 3) := by decide +kernel
theorem dX7_readPlainOne_98 : decode cX7_readPlainOne 98 = .ok (.ireturn, 1) := by decide +kernel
theorem dX7_readPlainOne_99 : decode cX7_readPlainOne 99 = .ok (.aload_n 1, 1) := by decide +kernel
theorem dX7_readPlainOne_100 : decode cX7_readPlainOne 100 = .ok (.getfield 57, 3) := by decide +kernel
theorem dX7_readPlainOne_103 : decode cX7_readPlainOne 103 = .ok (.istore 4, 2) := by decide +kernel
theorem dX7_readPlainOne_105 : decode cX7_readPlainOne 105 = .ok (.iload 4, 2) := by decide +kernel
theorem dX7_readPlainOne_107 : decode cX7_readPlainOne 107 = .ok (.bipush 60, 2) := by decide +kernel
theorem dX7_readPlainOne_109 : decode cX7_readPlainOne 109 = .ok (.if_icmp .eq 23, 3) := by decide +kernel
theorem dX7_readPlainOne_112 : decode cX7_readPlainOne 112 = .ok (.iload 4, 2) := by decide +kernel
theorem dX7_readPlainOne_114 : decode cX7_readPlainOne 114 = .ok (.bipush 61, 2) := by decide +kernel
theorem dX7_readPlainOne_116 : decode cX7_readPlainOne 116 = .ok (.if_icmp .eq 16, 3) := by decide +kernel
theorem dX7_readPlainOne_119 : decode cX7_readPlainOne 119 = .ok (.iload 4, 2) := by decide +kernel
theorem dX7_readPlainOne_121 : decode cX7_readPlainOne 121 = .ok (.bipush 62, 2) := by decide +kernel
theorem dX7_readPlainOne_123 : decode cX7_readPlainOne 123 = .ok (.if_icmp .eq 9, 3) := by decide +kernel
theorem dX7_readPlainOne_126 : decode cX7_readPlainOne 126 = .ok (.aload_n 1, 1) := by decide +kernel
theorem dX7_readPlainOne_127 : decode cX7_readPlainOne 127 = .ok (.iconst 1, 1) := by decide +kernel
theorem dX7_readPlainOne_128 : decode cX7_readPlainOne 128 = .ok (.invokevirtual 73, 3) := by decide +kernel
theorem dX7_readPlainOne_131 : decode cX7_readPlainOne 131 = .ok (.ireturn, 1) := by decide +kernel
theorem dX7_readPlainOne_132 : decode cX7_readPlainOne 132 = .ok (.aload_n 1, 1) := by decide +kernel
theorem dX7_readPlainOne_133 : decode cX7_readPlainOne 133 = .ok (.invokevirtual 60, 3) := by decide +kernel
theorem dX7_readPlainOne_136 : decode cX7_readPlainOne 136 = .ok (.aload_n 1, 1) := by decide +kernel
theorem dX7_readPlainOne_137 : decode cX7_readPlainOne 137 = .ok (.iconst 0, 1) := by decide +kernel
theorem dX7_readPlainOne_138 : decode cX7_readPlainOne 138 = .ok (.sipush 999, 3) := by decide +kernel
theorem dX7_readPlainOne_141 : decode cX7_readPlainOne 141 = .ok (.invokevirtual 96, 3) := by decide +kernel
theorem dX7_readPlainOne_144 : decode cX7_readPlainOne 144 = .ok (.istore 5, 2) := by decide +kernel
theorem dX7_readPlainOne_146 : decode cX7_readPlainOne 146 = .ok (.iload 5, 2) := by decide +kernel
theorem dX7_readPlainOne_148 : decode cX7_readPlainOne 148 = .ok (.iconst (-1), 1) := by decide +kernel
theorem dX7_readPlainOne_149 : decode cX7_readPlainOne 149 = .ok (.if_icmp .eq 19, 3) := by decide +kernel
theorem dX7_readPlainOne_152 : decode cX7_readPlainOne 152 = .ok (.aload_n 0, 1) := by decide +kernel
theorem dX7_readPlainOne_153 : decode cX7_readPlainOne 153 = .ok (.iload_n 3, 1) := by decide +kernel
theorem dX7_readPlainOne_154 : decode cX7_readPlainOne 154 = .ok (.iload 4, 2) := by decide +kernel
theorem dX7_readPlainOne_156 : decode cX7_readPlainOne 156 = .ok (.iload 5, 2) := by decide +kernel
theorem dX7_readPlainOne_158 : decode cX7_readPlainOne 158 = .ok (.invokevirtual 63, 3) := by decide +kernel
theorem dX7_readPlainOne_161 : decode cX7_readPlainOne 161 = .ok (.ifCond .eq 7, 3) := by decide +kernel
theorem dX7_readPlainOne_164 : decode cX7_readPlainOne 164 = .ok (.iconst 1, 1) := by decide +kernel
theorem dX7_readPlainOne_165 : decode cX7_readPlainOne 165 = .ok (.goto 4, 3) := by decide +kernel
theorem dX7_readPlainOne_168 : decode cX7_readPlainOne 168 = .ok (.iconst 0, 1) := by decide +kernel
theorem dX7_readPlainOne_169 : decode cX7_readPlainOne 169 = .ok (.ireturn, 1) := by decide +kernel
theorem rc_m1000 : Rg (-1000) (-1000) (-1000) := ⟨by decide, by decide⟩
theorem rc_m2 : Rg (-2) (-2) (-2) := ⟨by decide, by decide⟩
theorem rc_17 : Rg 17 17 17 := ⟨by decide, by decide⟩
theorem rc_18 : Rg 18 18 18 := ⟨by decide, by decide⟩
theorem rc_19 : Rg 19 19 19 := ⟨by decide, by decide⟩
theorem rc_23 : Rg 23 23 23 := ⟨by decide, by decide⟩
theorem rc_27 : Rg 27 27 27 := ⟨by decide, by decide⟩
theorem rc_400 : Rg 400 400 400 := ⟨by decide, by decide⟩
theorem rc_999 : Rg 999 999 999 := ⟨by decide, by decide⟩
set_option maxRecDepth 100000 in
set_option maxHeartbeats 8000000 in
theorem c_X0_readLine {l : Launch} {D : va_G} {cy : Nat → ClassId} {L : List Nat} {κ ln : Nat → Nat} {R : Nat → Nat → Option Nat} {I : Nat → Nat → Int32} {J : Nat → Nat → Int64} {ow : Nat → Nat × Nat} (W9 : ∀ a ∈ L, Shp L κ ln R ow a) {x : Nat} (hLx : x ∈ L) (hkx : κ x = 0) {a0 : Nat} (hLa0 : a0 ∈ L) (hka0 : κ a0 = 10) {a1 : Nat} (hLa1 : a1 ∈ L) (hka1 : κ a1 = 8) (hU : Iv L κ R ow I) : CtI l yX0_readLine cX0_readLine 5 (some .boolean) { frames := 3, cells := 0, slots := 0, locals := 70 } D cy L κ ln R I J [.ref x, .ref a0, .ref a1] (fun r I2 J2 => Iv L κ R ow I2 ∧ Fq L κ ow [1007, 1008, 1009, 1011, 1012, 10000, 10100, 10200, 10300] I I2 ∧ Fq L κ ow [1010] J J2 ∧ Rg 0 1 r ∧ (¬ r = 0 → bk_ R I2 x (I2 x 4).toNatClampNeg) ∧ (¬ r = 0 → Rg 0 39 (I2 x 4))) := by
  refine CtI.of (by decide +kernel) (Nat.le_of_ble_eq_true rfl) ?_
  intro p e s m below meth c B K
  have C := B.1
  have hF : Fq L κ ow [1007, 1008, 1009, 1011, 1012, 10000, 10100, 10200, 10300] I I := fq_rf
  have hG : Fq L κ ow [1010] J J := fq_rf
  obtain ⟨b_505325, hb_505325, hb_505325L, hb_505325k, hb_505325n, hb_505325o⟩ := shp_a (W9 x hLx) hkx 1 14 40 rfl (by decide)
  refine g_lo (is := [0, 1, 2]) (lo2 := [(0, .ref x), (1, .ref a0), (2, .ref a1)]) rfl ?_
  have j_68 : ∀ (I_505326 : Nat → Nat → Int32) (J_505327 : Nat → Nat → Int64) (hU_505328 : Iv L κ R ow I_505326) (hF_505329 : Fq L κ ow [1007, 1008, 1009, 1011, 1012, 10000, 10100, 10200, 10300] I I_505326) (hG_505330 : Fq L κ ow [1010] J J_505327) (v_505331 : Int32) (rv_505331 : Rg 0 1 v_505331) (v_505332 : Int32) (rv_505332 : Rg (-1) 6 v_505332) (v_505333 : Int32) (rv_505333 : Rg 16 100 v_505333) (q_505334 : I_505326 a0 8 = v_505333), WG p l e { frames := 3, cells := 0, slots := 0, locals := 70 } s m ([.ref x, .ref a0, .ref a1] : List Value).toArray below meth c 5 0 0 (MQ below (Qi_ D cy L κ ln R (fun r I2 J2 => Iv L κ R ow I2 ∧ Fq L κ ow [1007, 1008, 1009, 1011, 1012, 10000, 10100, 10200, 10300] I I2 ∧ Fq L κ ow [1010] J J2 ∧ Rg 0 1 r ∧ (¬ r = 0 → bk_ R I2 x (I2 x 4).toNatClampNeg) ∧ (¬ r = 0 → Rg 0 39 (I2 x 4)))) ([.ref x, .ref a0, .ref a1] : List Value).toArray s 0 0 (Al_ L)) D cy (Al_ L) s.heap L κ ln R I_505326 J_505327 68 [(0, .ref x), (1, .ref a0), (2, .ref a1), (3, .int v_505331), (4, .int v_505332)] [] := by
    intro I_505326 J_505327 hU_505328 hF_505329 hG_505330 v_505331 rv_505331 v_505332 rv_505332 v_505333 rv_505333 q_505334
    refine g_aload_n C 0 dX0_readLine_68 rfl rfl ?_
    obtain ⟨x_505335, hx_505335, rx_505335⟩ := ex_get (I := I_505326) (a := x) (j := 4) (lo := 0) (hi := 40) hU_505328.1 hLx (ro_o hkx (by decide)) rfl
    refine g_getI C K hLx hkx f_0_24 (v := x_505335) hx_505335 dX0_readLine_69 ?_
    refine g_bipush C (v := 40) dX0_readLine_72 (by decide) ?_
    refine g_icmp_lt C (tgt := 83) dX0_readLine_74 (by decide) (fun h_505336 => ?_) (fun h_505336 => ?_)
    · skip
      have r_505337 := lt_l (hi := 39) (h_505336) rx_505335 rc_40 (by decide)
      refine g_aload_n C 0 dX0_readLine_83 rfl rfl ?_
      refine g_getR C K hLx hkx f_0_15 hb_505325 dX0_readLine_84 ?_
      refine g_aload_n C 0 dX0_readLine_87 rfl rfl ?_
      refine g_getI C K hLx hkx f_0_24 (v := x_505335) hx_505335 dX0_readLine_88 ?_
      refine g_iload C 4 dX0_readLine_91 rfl ?_
      refine h_iast C K hb_505325L hb_505325k (x_505335.toNatClampNeg) (rfl) (ix_0 r_505337 (by decide)) (ix_lt r_505337 (by decide) hb_505325n (by decide)) dX0_readLine_93 (fun I_505338 hI_505338 => ?_)
      have hU_505339 := iv_row W9 hU_505328 (uv_put hU_505328.1 hI_505338 (ro_a hb_505325k (by decide) hb_505325o hkx rfl) (lo := (-1)) (hi := 6) (rfl) (rv_505332)) hI_505338 (ro_a hb_505325k (by decide) hb_505325o hkx rfl) hb_505325o (by decide) hx_505335 rfl
      have hF_505340 := fq_puta hF_505329 hI_505338 (ro_a hb_505325k (by decide) hb_505325o hkx rfl) (by decide) (by decide)
      refine g_iload_n C 3 dX0_readLine_94 rfl rfl ?_
      refine g_if_eq C (tgt := 102) dX0_readLine_95 (by decide) (fun h_505341 => ?_) (fun h_505341 => ?_)
      · skip
        have r_505342 := (⟨(rv_505331).1, (eq_rg (h_505341) rc_0).2⟩ : Rg 0 0 v_505331)
        refine g_aload_n C 0 dX0_readLine_102 rfl rfl ?_
        refine g_aload_n C 1 dX0_readLine_103 rfl rfl ?_
        refine g_aload_n C 2 dX0_readLine_104 rfl rfl ?_
        refine g_callVI C K (c_X0_readAct W9 hLx hkx hLa0 hka0 hLa1 hka1  hU_505339  (eq_rg (kp_k (κ := κ) hI_505338 (by rw [hkx, hb_505325k]; decide) hx_505335) (r_505337))) hLx hkx (by decide) rfl v_0_74 rfl ⟨rfl, rfl⟩ ⟨Nat.le_of_ble_eq_true rfl, Nat.le_of_ble_eq_true rfl⟩ (Nat.le_of_ble_eq_true rfl) ⟨Nat.le_of_ble_eq_true rfl, Nat.le_of_ble_eq_true rfl⟩ dX0_readLine_105 rfl (st := []) (fun x_505343 I_505344 J_505345 h_505346 => ?_)
        obtain ⟨hUI_505344, hFI_505344, hGJ_505345, rx_505343, ex_505343⟩ := h_505346
        have hF_505347 := fq_tr hF_505340 hFI_505344 (by decide)
        have hG_505348 := fq_tr hG_505330 hGJ_505345 (by decide)
        refine g_if_eq C (tgt := 124) dX0_readLine_108 (by decide) (fun h_505349 => ?_) (fun h_505349 => ?_)
        · skip
          have r_505350 := (⟨(rx_505343).1, (eq_rg (h_505349) rc_0).2⟩ : Rg 0 0 x_505343)
          refine g_iconst C (v := 0) dX0_readLine_124 (by decide) ?_
          exact g_zret (ty := .boolean) (r := 0) B K rfl (rfl) ⟨hUI_505344, hF_505347, hG_505348, rg_w rc_0 (by decide) (by decide), (fun q => absurd rfl q), (fun q => absurd rfl q)⟩ dX0_readLine_125
        · skip
          have n_505351 : ¬ x_505343 = 0 := h_505349
          have r_505352 := ne_lo (lo := 1) n_505351 rx_505343 rc_0 rfl (by decide)
          refine g_aload_n C 1 dX0_readLine_111 rfl rfl ?_
          refine g_bipush C (v := 59) dX0_readLine_112 (by decide) ?_
          refine g_callVI C K (c_X10_take W9 hLa0 hka0 59 (rg_w rc_59 (by decide) (by decide)) hUI_505344) hLa0 hka0 (by decide) rfl v_0_77 rfl ⟨rfl, rfl⟩ ⟨Nat.le_of_ble_eq_true rfl, Nat.le_of_ble_eq_true rfl⟩ (Nat.le_of_ble_eq_true rfl) ⟨Nat.le_of_ble_eq_true rfl, Nat.le_of_ble_eq_true rfl⟩ dX0_readLine_114 rfl (st := []) (fun x_505353 I_505354 J_505355 h_505356 => ?_)
          obtain ⟨hUI_505354, hFI_505354, hGJ_505355, rx_505353⟩ := h_505356
          have hF_505357 := fq_tr hF_505347 hFI_505354 (by decide)
          have hG_505358 := fq_tr hG_505348 hGJ_505355 (by decide)
          refine g_if_eq C (tgt := 124) dX0_readLine_117 (by decide) (fun h_505359 => ?_) (fun h_505359 => ?_)
          · skip
            have r_505360 := (⟨(rx_505353).1, (eq_rg (h_505359) rc_0).2⟩ : Rg 0 0 x_505353)
            refine g_iconst C (v := 0) dX0_readLine_124 (by decide) ?_
            exact g_zret (ty := .boolean) (r := 0) B K rfl (rfl) ⟨hUI_505354, hF_505357, hG_505358, rg_w rc_0 (by decide) (by decide), (fun q => absurd rfl q), (fun q => absurd rfl q)⟩ dX0_readLine_125
          · skip
            have n_505361 : ¬ x_505353 = 0 := h_505359
            have r_505362 := ne_lo (lo := 1) n_505361 rx_505353 rc_0 rfl (by decide)
            refine g_iconst C (v := 1) dX0_readLine_120 (by decide) ?_
            refine g_goto C (tgt := 125) dX0_readLine_121 (by decide) ?_
            exact g_zret (ty := .boolean) (r := 1) B K rfl (rfl) ⟨hUI_505354, hF_505357, hG_505358, rg_w rc_1 (by decide) (by decide), (fun _ => (bk_fq W9 hLx hkx (ex_505343 (rg_nz r_505352 (by decide))) hFI_505354 (by decide))), (fun _ => eq_rg (fq_at hFI_505354 hLx hkx (by decide) (by decide) (fq_at hFI_505344 hLx hkx (by decide) (by decide) (kp_k (κ := κ) hI_505338 (by rw [hkx, hb_505325k]; decide) hx_505335))) (r_505337))⟩ dX0_readLine_125
      · skip
        have n_505363 : ¬ v_505331 = 0 := h_505341
        have r_505364 := ne_lo (lo := 1) n_505363 rv_505331 rc_0 rfl (by decide)
        refine g_aload_n C 1 dX0_readLine_98 rfl rfl ?_
        refine g_callVV C K (c_X10_advance W9 hLa0 hka0   hU_505339) hLa0 hka0 (by decide) rfl v_0_71 rfl ⟨rfl, rfl⟩ ⟨Nat.le_of_ble_eq_true rfl, Nat.le_of_ble_eq_true rfl⟩ (Nat.le_of_ble_eq_true rfl) ⟨Nat.le_of_ble_eq_true rfl, Nat.le_of_ble_eq_true rfl⟩ dX0_readLine_99 rfl (st := []) (fun I_505366 J_505367 h_505368 => ?_)
        obtain ⟨hUI_505366, hFI_505366, hGJ_505367⟩ := h_505368
        have hF_505369 := fq_tr hF_505340 hFI_505366 (by decide)
        have hG_505370 := fq_tr hG_505330 hGJ_505367 (by decide)
        refine g_aload_n C 0 dX0_readLine_102 rfl rfl ?_
        refine g_aload_n C 1 dX0_readLine_103 rfl rfl ?_
        refine g_aload_n C 2 dX0_readLine_104 rfl rfl ?_
        refine g_callVI C K (c_X0_readAct W9 hLx hkx hLa0 hka0 hLa1 hka1  hUI_505366  (eq_rg (fq_at hFI_505366 hLx hkx (by decide) (by decide) (kp_k (κ := κ) hI_505338 (by rw [hkx, hb_505325k]; decide) hx_505335)) (r_505337))) hLx hkx (by decide) rfl v_0_74 rfl ⟨rfl, rfl⟩ ⟨Nat.le_of_ble_eq_true rfl, Nat.le_of_ble_eq_true rfl⟩ (Nat.le_of_ble_eq_true rfl) ⟨Nat.le_of_ble_eq_true rfl, Nat.le_of_ble_eq_true rfl⟩ dX0_readLine_105 rfl (st := []) (fun x_505371 I_505372 J_505373 h_505374 => ?_)
        obtain ⟨hUI_505372, hFI_505372, hGJ_505373, rx_505371, ex_505371⟩ := h_505374
        have hF_505375 := fq_tr hF_505369 hFI_505372 (by decide)
        have hG_505376 := fq_tr hG_505370 hGJ_505373 (by decide)
        refine g_if_eq C (tgt := 124) dX0_readLine_108 (by decide) (fun h_505377 => ?_) (fun h_505377 => ?_)
        · skip
          have r_505378 := (⟨(rx_505371).1, (eq_rg (h_505377) rc_0).2⟩ : Rg 0 0 x_505371)
          refine g_iconst C (v := 0) dX0_readLine_124 (by decide) ?_
          exact g_zret (ty := .boolean) (r := 0) B K rfl (rfl) ⟨hUI_505372, hF_505375, hG_505376, rg_w rc_0 (by decide) (by decide), (fun q => absurd rfl q), (fun q => absurd rfl q)⟩ dX0_readLine_125
        · skip
          have n_505379 : ¬ x_505371 = 0 := h_505377
          have r_505380 := ne_lo (lo := 1) n_505379 rx_505371 rc_0 rfl (by decide)
          refine g_aload_n C 1 dX0_readLine_111 rfl rfl ?_
          refine g_bipush C (v := 59) dX0_readLine_112 (by decide) ?_
          refine g_callVI C K (c_X10_take W9 hLa0 hka0 59 (rg_w rc_59 (by decide) (by decide)) hUI_505372) hLa0 hka0 (by decide) rfl v_0_77 rfl ⟨rfl, rfl⟩ ⟨Nat.le_of_ble_eq_true rfl, Nat.le_of_ble_eq_true rfl⟩ (Nat.le_of_ble_eq_true rfl) ⟨Nat.le_of_ble_eq_true rfl, Nat.le_of_ble_eq_true rfl⟩ dX0_readLine_114 rfl (st := []) (fun x_505381 I_505382 J_505383 h_505384 => ?_)
          obtain ⟨hUI_505382, hFI_505382, hGJ_505383, rx_505381⟩ := h_505384
          have hF_505385 := fq_tr hF_505375 hFI_505382 (by decide)
          have hG_505386 := fq_tr hG_505376 hGJ_505383 (by decide)
          refine g_if_eq C (tgt := 124) dX0_readLine_117 (by decide) (fun h_505387 => ?_) (fun h_505387 => ?_)
          · skip
            have r_505388 := (⟨(rx_505381).1, (eq_rg (h_505387) rc_0).2⟩ : Rg 0 0 x_505381)
            refine g_iconst C (v := 0) dX0_readLine_124 (by decide) ?_
            exact g_zret (ty := .boolean) (r := 0) B K rfl (rfl) ⟨hUI_505382, hF_505385, hG_505386, rg_w rc_0 (by decide) (by decide), (fun q => absurd rfl q), (fun q => absurd rfl q)⟩ dX0_readLine_125
          · skip
            have n_505389 : ¬ x_505381 = 0 := h_505387
            have r_505390 := ne_lo (lo := 1) n_505389 rx_505381 rc_0 rfl (by decide)
            refine g_iconst C (v := 1) dX0_readLine_120 (by decide) ?_
            refine g_goto C (tgt := 125) dX0_readLine_121 (by decide) ?_
            have q_505391 := (fq_at hFI_505382 hLx hkx (by decide) (by decide) (fq_at hFI_505372 hLx hkx (by decide) (by decide) (fq_at hFI_505366 hLx hkx (by decide) (by decide) (kp_k (κ := κ) hI_505338 (by rw [hkx, hb_505325k]; decide) hx_505335))))
            exact g_zret (ty := .boolean) (r := 1) B K rfl (rfl) ⟨hUI_505382, hF_505385, hG_505386, rg_w rc_1 (by decide) (by decide), (fun _ => (bk_fq W9 hLx hkx (ex_505371 (rg_nz r_505380 (by decide))) hFI_505382 (by decide))), (fun _ => eq_rg q_505391 (r_505337))⟩ dX0_readLine_125
    · skip
      have r_505392 := le_r (nlt h_505336) rc_40 rx_505335
      refine g_aload_n C 1 dX0_readLine_77 rfl rfl ?_
      refine g_iconst C (v := 4) dX0_readLine_78 (by decide) ?_
      refine g_callVI C K (c_X10_fail W9 hLa0 hka0 4 (rg_w rc_4 (by decide) (by decide)) hU_505328) hLa0 hka0 (by decide) rfl v_0_57 rfl ⟨rfl, rfl⟩ ⟨Nat.le_of_ble_eq_true rfl, Nat.le_of_ble_eq_true rfl⟩ (Nat.le_of_ble_eq_true rfl) ⟨Nat.le_of_ble_eq_true rfl, Nat.le_of_ble_eq_true rfl⟩ dX0_readLine_79 rfl (st := []) (fun x_505393 I_505394 J_505395 h_505396 => ?_)
      obtain ⟨hUI_505394, hFI_505394, hGJ_505395, rx_505393⟩ := h_505396
      have hF_505397 := fq_tr hF_505329 hFI_505394 (by decide)
      have hG_505398 := fq_tr hG_505330 hGJ_505395 (by decide)
      exact g_zret (ty := .boolean) (r := x_505393) B K rfl (nar_z (rg_w rx_505393 (by decide) (by decide))) ⟨hUI_505394, hF_505397, hG_505398, rg_w rx_505393 (by decide) (by decide), (fun q => ne_no q rx_505393 rc_0), (fun q => ne_no q rx_505393 rc_0)⟩ dX0_readLine_82
  have j_34 : ∀ (I_505399 : Nat → Nat → Int32) (J_505400 : Nat → Nat → Int64) (hU_505401 : Iv L κ R ow I_505399) (hF_505402 : Fq L κ ow [1007, 1008, 1009, 1011, 1012, 10000, 10100, 10200, 10300] I I_505399) (hG_505403 : Fq L κ ow [1010] J J_505400) (v_505404 : Int32) (rv_505404 : Rg 0 1 v_505404) (v_505405 : Int32) (rv_505405 : Rg 16 100 v_505405) (q_505406 : I_505399 a0 8 = v_505405), WG p l e { frames := 3, cells := 0, slots := 0, locals := 70 } s m ([.ref x, .ref a0, .ref a1] : List Value).toArray below meth c 5 0 0 (MQ below (Qi_ D cy L κ ln R (fun r I2 J2 => Iv L κ R ow I2 ∧ Fq L κ ow [1007, 1008, 1009, 1011, 1012, 10000, 10100, 10200, 10300] I I2 ∧ Fq L κ ow [1010] J J2 ∧ Rg 0 1 r ∧ (¬ r = 0 → bk_ R I2 x (I2 x 4).toNatClampNeg) ∧ (¬ r = 0 → Rg 0 39 (I2 x 4)))) ([.ref x, .ref a0, .ref a1] : List Value).toArray s 0 0 (Al_ L)) D cy (Al_ L) s.heap L κ ln R I_505399 J_505400 34 [(0, .ref x), (1, .ref a0), (2, .ref a1), (3, .int v_505404)] [] := by
    intro I_505399 J_505400 hU_505401 hF_505402 hG_505403 v_505404 rv_505404 v_505405 rv_505405 q_505406
    refine g_iload_n C 3 dX0_readLine_34 rfl rfl ?_
    refine g_if_eq C (tgt := 49) dX0_readLine_35 (by decide) (fun h_505407 => ?_) (fun h_505407 => ?_)
    · skip
      have r_505408 := (⟨(rv_505404).1, (eq_rg (h_505407) rc_0).2⟩ : Rg 0 0 v_505404)
      refine g_iconst C (v := (-1)) dX0_readLine_49 (by decide) ?_
      refine g_istore C dX0_readLine_50 (by decide) (lo2 := [(4, .int (-1)), (0, .ref x), (1, .ref a0), (2, .ref a1), (3, .int v_505404)]) rfl ?_
      refine g_iload_n C 4 dX0_readLine_52 rfl rfl ?_
      refine g_if_eq C (tgt := 68) dX0_readLine_53 (by decide) (fun h_505409 => ?_) (fun h_505409 => ?_)
      · skip
        refine g_lo (is := [1, 2, 3, 4, 0]) (lo2 := [(0, .ref x), (1, .ref a0), (2, .ref a1), (3, .int v_505404), (4, .int (-1))]) rfl ?_
        exact j_68 I_505399 J_505400 hU_505401 hF_505402 hG_505403 v_505404 (rg_w r_505408 (by decide) (by decide)) (-1) (rg_w rc_m1 (by decide) (by decide)) v_505405 (rv_505405) q_505406
      · skip
        exact ne_no (h_505409) r_505408 rc_0
    · skip
      have n_505410 : ¬ v_505404 = 0 := h_505407
      have r_505411 := ne_lo (lo := 1) n_505410 rv_505404 rc_0 rfl (by decide)
      refine g_aload_n C 2 dX0_readLine_38 rfl rfl ?_
      refine g_aload_n C 1 dX0_readLine_39 rfl rfl ?_
      obtain ⟨y_505412, hy_505412⟩ : ∃ z, J_505400 a0 10 = z := ⟨_, rfl⟩
      refine g_getJ C K hLa0 hka0 f_0_61 (v := y_505412) hy_505412 dX0_readLine_40 ?_
      refine g_callVI C K (c_X8_personNamed W9 hLa1 hka1 y_505412  hU_505401) hLa1 hka1 (by decide) rfl v_0_65 rfl ⟨rfl, rfl⟩ ⟨Nat.le_of_ble_eq_true rfl, Nat.le_of_ble_eq_true rfl⟩ (Nat.le_of_ble_eq_true rfl) ⟨Nat.le_of_ble_eq_true rfl, Nat.le_of_ble_eq_true rfl⟩ dX0_readLine_43 rfl (st := []) (fun x_505413 I_505414 J_505415 h_505416 => ?_)
      obtain ⟨rfl, rfl, rx_505413⟩ := h_505416
      refine g_goto C (tgt := 50) dX0_readLine_46 (by decide) ?_
      refine g_istore C dX0_readLine_50 (by decide) (lo2 := [(4, .int x_505413), (0, .ref x), (1, .ref a0), (2, .ref a1), (3, .int v_505404)]) rfl ?_
      refine g_iload_n C 4 dX0_readLine_52 rfl rfl ?_
      refine g_if_eq C (tgt := 68) dX0_readLine_53 (by decide) (fun h_505417 => ?_) (fun h_505417 => ?_)
      · skip
        exact eq_no (h_505417) r_505411 rc_0 (by decide)
      · skip
        have n_505418 : ¬ v_505404 = 0 := h_505417
        refine g_iload C 0 dX0_readLine_56 rfl ?_
        refine g_iconst C (v := (-1)) dX0_readLine_58 (by decide) ?_
        refine g_icmp_ne C (tgt := 68) dX0_readLine_59 (by decide) (fun h_505419 => ?_) (fun h_505419 => ?_)
        · skip
          have n_505420 : ¬ x_505413 = (-1) := h_505419
          have r_505421 := ne_lo (lo := 0) n_505420 rx_505413 rc_m1 rfl (by decide)
          refine g_lo (is := [1, 2, 3, 4, 0]) (lo2 := [(0, .ref x), (1, .ref a0), (2, .ref a1), (3, .int v_505404), (4, .int x_505413)]) rfl ?_
          exact j_68 I_505399 J_505400 hU_505401 hF_505402 hG_505403 v_505404 (rg_w r_505411 (by decide) (by decide)) x_505413 (rg_w r_505421 (by decide) (by decide)) v_505405 (rv_505405) q_505406
        · skip
          have r_505422 := (⟨(rx_505413).1, (eq_rg (h_505419) rc_m1).2⟩ : Rg (-1) (-1) x_505413)
          refine g_aload_n C 2 dX0_readLine_62 rfl rfl ?_
          refine g_iconst C (v := 3) dX0_readLine_63 (by decide) ?_
          refine g_callVI C K (c_X10_fail W9 hLa0 hka0 3 (rg_w rc_3 (by decide) (by decide)) hU_505401) hLa0 hka0 (by decide) rfl v_0_57 rfl ⟨rfl, rfl⟩ ⟨Nat.le_of_ble_eq_true rfl, Nat.le_of_ble_eq_true rfl⟩ (Nat.le_of_ble_eq_true rfl) ⟨Nat.le_of_ble_eq_true rfl, Nat.le_of_ble_eq_true rfl⟩ dX0_readLine_64 rfl (st := []) (fun x_505423 I_505424 J_505425 h_505426 => ?_)
          obtain ⟨hUI_505424, hFI_505424, hGJ_505425, rx_505423⟩ := h_505426
          have hF_505427 := fq_tr hF_505402 hFI_505424 (by decide)
          have hG_505428 := fq_tr hG_505403 hGJ_505425 (by decide)
          exact g_zret (ty := .boolean) (r := x_505423) B K rfl (nar_z (rg_w rx_505423 (by decide) (by decide))) ⟨hUI_505424, hF_505427, hG_505428, rg_w rx_505423 (by decide) (by decide), (fun q => ne_no q rx_505423 rc_0), (fun q => ne_no q rx_505423 rc_0)⟩ dX0_readLine_67
  refine g_aload_n C 1 dX0_readLine_0 rfl rfl ?_
  obtain ⟨x_505429, hx_505429, rx_505429⟩ := ex_get (I := I) (a := a0) (j := 8) (lo := (-2147483648)) (hi := 2147483647) hU.1 hLa0 (ro_o hka0 (by decide)) rfl
  refine g_getI C K hLa0 hka0 f_0_50 (v := x_505429) hx_505429 dX0_readLine_1 ?_
  refine g_bipush C (v := 100) dX0_readLine_4 (by decide) ?_
  refine g_icmp_ne C (tgt := 13) dX0_readLine_6 (by decide) (fun h_505430 => ?_) (fun h_505430 => ?_)
  · skip
    have n_505431 : ¬ x_505429 = 100 := h_505430
    refine g_iconst C (v := 0) dX0_readLine_13 (by decide) ?_
    refine g_istore_n C dX0_readLine_14 rfl (by decide) (lo2 := [(3, .int 0), (0, .ref x), (1, .ref a0), (2, .ref a1)]) rfl ?_
    refine g_iload_n C 0 dX0_readLine_15 rfl rfl ?_
    refine g_if_ne C (tgt := 34) dX0_readLine_16 (by decide) (fun h_505432 => ?_) (fun h_505432 => ?_)
    · skip
      exact absurd h_505432 (by decide)
    · skip
      refine g_aload_n C 2 dX0_readLine_19 rfl rfl ?_
      refine g_getI C K hLa0 hka0 f_0_50 (v := x_505429) hx_505429 dX0_readLine_20 ?_
      refine g_bipush C (v := 16) dX0_readLine_23 (by decide) ?_
      refine g_icmp_eq C (tgt := 34) dX0_readLine_25 (by decide) (fun h_505433 => ?_) (fun h_505433 => ?_)
      · skip
        have r_505434 := (⟨(eq_rg (h_505433) rc_16).1, (eq_rg (h_505433) rc_16).2⟩ : Rg 16 16 x_505429)
        refine g_lo (is := [1, 2, 3, 0]) (lo2 := [(0, .ref x), (1, .ref a0), (2, .ref a1), (3, .int 0)]) rfl ?_
        exact j_34 I J hU hF hG 0 (rg_w rc_0 (by decide) (by decide)) x_505429 (rg_w r_505434 (by decide) (by decide)) hx_505429
      · skip
        have n_505435 : ¬ x_505429 = 16 := h_505433
        refine g_aload_n C 2 dX0_readLine_28 rfl rfl ?_
        refine g_iconst C (v := 1) dX0_readLine_29 (by decide) ?_
        refine g_callVI C K (c_X10_fail W9 hLa0 hka0 1 (rg_w rc_1 (by decide) (by decide)) hU) hLa0 hka0 (by decide) rfl v_0_57 rfl ⟨rfl, rfl⟩ ⟨Nat.le_of_ble_eq_true rfl, Nat.le_of_ble_eq_true rfl⟩ (Nat.le_of_ble_eq_true rfl) ⟨Nat.le_of_ble_eq_true rfl, Nat.le_of_ble_eq_true rfl⟩ dX0_readLine_30 rfl (st := []) (fun x_505436 I_505437 J_505438 h_505439 => ?_)
        obtain ⟨hUI_505437, hFI_505437, hGJ_505438, rx_505436⟩ := h_505439
        have hF_505440 := fq_tr hF hFI_505437 (by decide)
        have hG_505441 := fq_tr hG hGJ_505438 (by decide)
        exact g_zret (ty := .boolean) (r := x_505436) B K rfl (nar_z (rg_w rx_505436 (by decide) (by decide))) ⟨hUI_505437, hF_505440, hG_505441, rg_w rx_505436 (by decide) (by decide), (fun q => ne_no q rx_505436 rc_0), (fun q => ne_no q rx_505436 rc_0)⟩ dX0_readLine_33
  · skip
    have r_505442 := (⟨(eq_rg (h_505430) rc_100).1, (eq_rg (h_505430) rc_100).2⟩ : Rg 100 100 x_505429)
    refine g_iconst C (v := 1) dX0_readLine_9 (by decide) ?_
    refine g_goto C (tgt := 14) dX0_readLine_10 (by decide) ?_
    refine g_istore_n C dX0_readLine_14 rfl (by decide) (lo2 := [(3, .int 1), (0, .ref x), (1, .ref a0), (2, .ref a1)]) rfl ?_
    refine g_iload_n C 0 dX0_readLine_15 rfl rfl ?_
    refine g_if_ne C (tgt := 34) dX0_readLine_16 (by decide) (fun h_505443 => ?_) (fun h_505443 => ?_)
    · skip
      refine g_lo (is := [1, 2, 3, 0]) (lo2 := [(0, .ref x), (1, .ref a0), (2, .ref a1), (3, .int 1)]) rfl ?_
      exact j_34 I J hU hF hG 1 (rg_w rc_1 (by decide) (by decide)) x_505429 (rg_w r_505442 (by decide) (by decide)) hx_505429
    · skip
      exact absurd h_505443 (by decide)
set_option maxRecDepth 100000 in
set_option maxHeartbeats 8000000 in
theorem c_X0_readFrom {l : Launch} {D : va_G} {cy : Nat → ClassId} {L : List Nat} {κ ln : Nat → Nat} {R : Nat → Nat → Option Nat} {I : Nat → Nat → Int32} {J : Nat → Nat → Int64} {ow : Nat → Nat × Nat} (W9 : ∀ a ∈ L, Shp L κ ln R ow a) {x : Nat} (hLx : x ∈ L) (hkx : κ x = 0) {a0 : Nat} (hLa0 : a0 ∈ L) (hka0 : κ a0 = 10) {a1 : Nat} (hLa1 : a1 ∈ L) (hka1 : κ a1 = 8) (hU : Iv L κ R ow I) : CtV l yX0_readFrom cX0_readFrom 3 none { frames := 4, cells := 0, slots := 0, locals := 94 } D cy L κ ln R I J [.ref x, .ref a0, .ref a1] (fun I2 J2 => Iv L κ R ow I2 ∧ Fq L κ ow [4, 1006, 1007, 1008, 1009, 1011, 1012, 10000, 10100, 10200, 10300, 70200, 70300] I I2 ∧ Fq L κ ow [1010, 70400] J J2) := by
  refine CtV.of (by decide +kernel) (Nat.le_of_ble_eq_true rfl) ?_
  intro p e s m below meth c B K
  have C := B.1
  have hF : Fq L κ ow [4, 1006, 1007, 1008, 1009, 1011, 1012, 10000, 10100, 10200, 10300, 70200, 70300] I I := fq_rf
  have hG : Fq L κ ow [1010, 70400] J J := fq_rf
  refine g_lo (is := [0, 1, 2]) (lo2 := [(0, .ref x), (1, .ref a0), (2, .ref a1)]) rfl ?_
  have l_12 : ∀ (n_12 : Nat) (I_505860 : Nat → Nat → Int32) (J_505861 : Nat → Nat → Int64) (hU_505862 : Iv L κ R ow I_505860) (hF_505863 : Fq L κ ow [4, 1006, 1007, 1008, 1009, 1011, 1012, 10000, 10100, 10200, 10300, 70200, 70300] I I_505860) (hG_505864 : Fq L κ ow [1010, 70400] J J_505861) (v_505865 : Int32) (rv_505865 : Rg 0 40 v_505865) (q_505866 : I_505860 x 4 = v_505865) (hm_505867 : 40 < (v_505865 : Int32).toInt + (n_12 : Int)), WG p l e { frames := 4, cells := 0, slots := 0, locals := 94 } s m ([.ref x, .ref a0, .ref a1] : List Value).toArray below meth c 3 0 0 (MQ below (Qv_ D cy L κ ln R (fun I2 J2 => Iv L κ R ow I2 ∧ Fq L κ ow [4, 1006, 1007, 1008, 1009, 1011, 1012, 10000, 10100, 10200, 10300, 70200, 70300] I I2 ∧ Fq L κ ow [1010, 70400] J J2)) ([.ref x, .ref a0, .ref a1] : List Value).toArray s 0 0 (Al_ L)) D cy (Al_ L) s.heap L κ ln R I_505860 J_505861 12 [(0, .ref x), (1, .ref a0), (2, .ref a1)] [] := by
    intro n_12
    induction n_12 with
    | zero =>
      intro I_505860 J_505861 hU_505862 hF_505863 hG_505864 v_505865 rv_505865 q_505866 hm_505867
      exact ms_0 rv_505865 hm_505867
    | succ n_12 ih_12 =>
      intro I_505860 J_505861 hU_505862 hF_505863 hG_505864 v_505865 rv_505865 q_505866 hm_505867
      refine g_aload_n C 0 dX0_readFrom_12 rfl rfl ?_
      refine g_getI C K hLx hkx f_0_24 (v := v_505865) q_505866 dX0_readFrom_13 ?_
      refine g_bipush C (v := 40) dX0_readFrom_16 (by decide) ?_
      refine g_icmp_gt C (tgt := 52) dX0_readFrom_18 (by decide) (fun h_505868 => ?_) (fun h_505868 => ?_)
      · skip
        have r_505869 := lt_r (lo := 41) (h_505868) rc_40 rv_505865 (by decide)
        exact rg_no r_505869 (by decide)
      · skip
        refine g_aload_n C 1 dX0_readFrom_21 rfl rfl ?_
        obtain ⟨x_505870, hx_505870, rx_505870⟩ := ex_get (I := I_505860) (a := a0) (j := 8) (lo := (-2147483648)) (hi := 2147483647) hU_505862.1 hLa0 (ro_o hka0 (by decide)) rfl
        refine g_getI C K hLa0 hka0 f_0_50 (v := x_505870) hx_505870 dX0_readFrom_22 ?_
        refine g_bipush C (v := 102) dX0_readFrom_25 (by decide) ?_
        refine g_icmp_eq C (tgt := 52) dX0_readFrom_27 (by decide) (fun h_505871 => ?_) (fun h_505871 => ?_)
        · skip
          have r_505872 := (⟨(eq_rg (h_505871) rc_102).1, (eq_rg (h_505871) rc_102).2⟩ : Rg 102 102 x_505870)
          exact g_vret B K rfl ⟨hU_505862, hF_505863, hG_505864⟩ dX0_readFrom_52
        · skip
          have n_505873 : ¬ x_505870 = 102 := h_505871
          refine g_aload_n C 0 dX0_readFrom_30 rfl rfl ?_
          refine g_aload_n C 1 dX0_readFrom_31 rfl rfl ?_
          refine g_aload_n C 2 dX0_readFrom_32 rfl rfl ?_
          refine g_callVI C K (c_X0_readLine W9 hLx hkx hLa0 hka0 hLa1 hka1  hU_505862) hLx hkx (by decide) rfl v_0_53 rfl ⟨rfl, rfl⟩ ⟨Nat.le_of_ble_eq_true rfl, Nat.le_of_ble_eq_true rfl⟩ (Nat.le_of_ble_eq_true rfl) ⟨Nat.le_of_ble_eq_true rfl, Nat.le_of_ble_eq_true rfl⟩ dX0_readFrom_33 rfl (st := []) (fun x_505874 I_505875 J_505876 h_505877 => ?_)
          obtain ⟨hUI_505875, hFI_505875, hGJ_505876, rx_505874, ex_505874⟩ := h_505877
          have hF_505878 := fq_tr hF_505863 hFI_505875 (by decide)
          have hG_505879 := fq_tr hG_505864 hGJ_505876 (by decide)
          have q_505880 := (fq_at hFI_505875 hLx hkx (by decide) (by decide) q_505866)
          refine g_if_eq C (tgt := 52) dX0_readFrom_36 (by decide) (fun h_505881 => ?_) (fun h_505881 => ?_)
          · skip
            have r_505882 := (⟨(rx_505874).1, (eq_rg (h_505881) rc_0).2⟩ : Rg 0 0 x_505874)
            exact g_vret B K rfl ⟨hUI_505875, hF_505878, hG_505879⟩ dX0_readFrom_52
          · skip
            have n_505883 : ¬ x_505874 = 0 := h_505881
            have r_505884 := ne_lo (lo := 1) n_505883 rx_505874 rc_0 rfl (by decide)
            have r_505885 := rg_i rv_505865 (eq_rg q_505880.symm ((ex_505874.2) (rg_nz r_505884 (by decide)))) (lo := 0) (hi := 39) (by decide) (by decide)
            refine g_aload_n C 0 dX0_readFrom_39 rfl rfl ?_
            refine g_dup C dX0_readFrom_40 rfl ?_
            refine g_getI C K hLx hkx f_0_24 (v := v_505865) (fq_at hFI_505875 hLx hkx (by decide) (by decide) q_505866) dX0_readFrom_41 ?_
            refine g_iconst C (v := 1) dX0_readFrom_44 (by decide) ?_
            obtain ⟨x_505886, hx_505886, rx_505886, tx_505886⟩ := ex_add 1 40 r_505885 rc_1 (by decide) (by decide) (by decide) (by decide)
            refine g_iadd C (v := x_505886) dX0_readFrom_45 hx_505886 ?_
            refine h_putI C K hLx hkx f_0_24 p_0_4 dX0_readFrom_46 (fun I_505887 hI_505887 => ?_)
            have hU_505888 := iv_len1 W9 hUI_505875 (uv_put hUI_505875.1 hI_505887 (ro_o hkx (by decide)) (lo := 0) (hi := 40) (rfl) (rg_w rx_505886 (by decide) (by decide))) hLx hkx hI_505887 (fq_at hFI_505875 hLx hkx (by decide) (by decide) q_505866) (r_505885) (ti_k tx_505886 rc_1) (ex_505874.1 (rg_nz r_505884 (by decide)))
            have hF_505889 := fq_puto hF_505878 hI_505887 hkx (by decide) (by decide)
            refine g_goto C (tgt := 12) dX0_readFrom_49 (by decide) ?_
            refine g_lo (is := [0, 1, 2]) (lo2 := [(0, .ref x), (1, .ref a0), (2, .ref a1)]) rfl ?_
            exact ih_12 I_505887 J_505876 hU_505888 hF_505889 hG_505879 x_505886 (rg_w rx_505886 (by decide) (by decide)) (kp_s hI_505887) (ms_1 hm_505867 (ti_k tx_505886 rc_1) (by decide))
  refine g_aload_n C 1 dX0_readFrom_0 rfl rfl ?_
  refine g_sipush C (v := 400) dX0_readFrom_1 (by decide) ?_
  refine g_callVV C K (c_X10_begin W9 hLa0 hka0 400 (rg_w rc_400 (by decide) (by decide)) hU) hLa0 hka0 (by decide) rfl v_0_44 rfl ⟨rfl, rfl⟩ ⟨Nat.le_of_ble_eq_true rfl, Nat.le_of_ble_eq_true rfl⟩ (Nat.le_of_ble_eq_true rfl) ⟨Nat.le_of_ble_eq_true rfl, Nat.le_of_ble_eq_true rfl⟩ dX0_readFrom_4 rfl (st := []) (fun I_505891 J_505892 h_505893 => ?_)
  obtain ⟨hUI_505891, hFI_505891, hGJ_505892⟩ := h_505893
  have hF_505894 := fq_tr hF hFI_505891 (by decide)
  have hG_505895 := fq_tr hG hGJ_505892 (by decide)
  refine g_aload_n C 0 dX0_readFrom_7 rfl rfl ?_
  refine g_iconst C (v := 0) dX0_readFrom_8 (by decide) ?_
  refine h_putI C K hLx hkx f_0_24 p_0_4 dX0_readFrom_9 (fun I_505896 hI_505896 => ?_)
  have hU_505897 := iv_len0 W9 hUI_505891 (uv_put hUI_505891.1 hI_505896 (ro_o hkx (by decide)) (lo := 0) (hi := 40) (rfl) (rg_w rc_0 (by decide) (by decide))) hLx hkx hI_505896
  have hF_505898 := fq_puto hF_505894 hI_505896 hkx (by decide) (by decide)
  refine g_lo (is := [0, 1, 2]) (lo2 := [(0, .ref x), (1, .ref a0), (2, .ref a1)]) rfl ?_
  exact l_12 41 I_505896 J_505892 hU_505897 hF_505898 hG_505895 0 (rg_w rc_0 (by decide) (by decide)) (kp_s hI_505896) (ms_s (a := 0) (b := 40) (N := 41) (rg_w rc_0 (by decide) (by decide)) (by decide))
set_option maxRecDepth 100000 in
set_option maxHeartbeats 8000000 in
theorem c_X11_book {l : Launch} {D : va_G} {cy : Nat → ClassId} {L : List Nat} {κ ln : Nat → Nat} {R : Nat → Nat → Option Nat} {I : Nat → Nat → Int32} {J : Nat → Nat → Int64} {ow : Nat → Nat × Nat} (W9 : ∀ a ∈ L, Shp L κ ln R ow a) {x : Nat} (hLx : x ∈ L) (hkx : κ x = 11) (a0 : Int32) (hU : Iv L κ R ow I) : CtI l yX11_book cX11_book 2 (some .int) { frames := 6, cells := 0, slots := 0, locals := 170 } D cy L κ ln R I J [.ref x, .int a0] (fun r I2 J2 => Iv L κ R ow I2 ∧ Fq L κ ow [4, 5, 6, 7, 8, 9, 107, 108, 109, 110, 111, 112, 501, 502, 1005, 1006, 1007, 1008, 1009, 1011, 1012, 10000, 10100, 10200, 10300, 16100, 16200, 16300, 16400, 16500, 16600, 70200, 70300] I I2 ∧ Fq L κ ow [1010, 70400] J J2 ∧ Rg (-2147483648) 2147483647 r) := by
  refine CtI.of (by decide +kernel) (Nat.le_of_ble_eq_true rfl) ?_
  intro p e s m below meth c B K
  have C := B.1
  have hF : Fq L κ ow [4, 5, 6, 7, 8, 9, 107, 108, 109, 110, 111, 112, 501, 502, 1005, 1006, 1007, 1008, 1009, 1011, 1012, 10000, 10100, 10200, 10300, 16100, 16200, 16300, 16400, 16500, 16600, 70200, 70300] I I := fq_rf
  have hG : Fq L κ ow [1010, 70400] J J := fq_rf
  obtain ⟨b_506031, hb_506031, hb_506031L, hb_506031k⟩ := shp_o (W9 x hLx) hkx 4 5 rfl (by decide)
  obtain ⟨b_506032, hb_506032, hb_506032L, hb_506032k⟩ := shp_o (W9 x hLx) hkx 2 1 rfl (by decide)
  obtain ⟨b_506033, hb_506033, hb_506033L, hb_506033k⟩ := shp_o (W9 x hLx) hkx 3 1 rfl (by decide)
  obtain ⟨b_506034, hb_506034, hb_506034L, hb_506034k⟩ := shp_o (W9 x hLx) hkx 0 10 rfl (by decide)
  obtain ⟨b_506035, hb_506035, hb_506035L, hb_506035k⟩ := shp_o (W9 x hLx) hkx 1 8 rfl (by decide)
  obtain ⟨b_506036, hb_506036, hb_506036L, hb_506036k⟩ := shp_o (W9 x hLx) hkx 6 0 rfl (by decide)
  refine g_lo (is := [0, 1]) (lo2 := [(0, .ref x), (1, .int a0)]) rfl ?_
  have j_113 : ∀ (I_506037 : Nat → Nat → Int32) (J_506038 : Nat → Nat → Int64) (hU_506039 : Iv L κ R ow I_506037) (hF_506040 : Fq L κ ow [4, 5, 6, 7, 8, 9, 107, 108, 109, 110, 111, 112, 501, 502, 1005, 1006, 1007, 1008, 1009, 1011, 1012, 10000, 10100, 10200, 10300, 16100, 16200, 16300, 16400, 16500, 16600, 70200, 70300] I I_506037) (hG_506041 : Fq L κ ow [1010, 70400] J J_506038) (v_506042 : Int32) (rv_506042 : Rg 0 1 v_506042) (v_506043 : Int32) (rv_506043 : Rg 0 0 v_506043) (q_506044 : I_506037 b_506034 5 = 0) (q_506045 : I_506037 b_506034 11 = v_506043), WG p l e { frames := 6, cells := 0, slots := 0, locals := 170 } s m ([.ref x, .int a0] : List Value).toArray below meth c 2 0 0 (MQ below (Qi_ D cy L κ ln R (fun r I2 J2 => Iv L κ R ow I2 ∧ Fq L κ ow [4, 5, 6, 7, 8, 9, 107, 108, 109, 110, 111, 112, 501, 502, 1005, 1006, 1007, 1008, 1009, 1011, 1012, 10000, 10100, 10200, 10300, 16100, 16200, 16300, 16400, 16500, 16600, 70200, 70300] I I2 ∧ Fq L κ ow [1010, 70400] J J2 ∧ Rg (-2147483648) 2147483647 r)) ([.ref x, .int a0] : List Value).toArray s 0 0 (Al_ L)) D cy (Al_ L) s.heap L κ ln R I_506037 J_506038 113 [(0, .ref x), (1, .int v_506042)] [] := by
    intro I_506037 J_506038 hU_506039 hF_506040 hG_506041 v_506042 rv_506042 v_506043 rv_506043 q_506044 q_506045
    refine g_aload_n C 0 dX11_book_113 rfl rfl ?_
    refine g_getR C K hLx hkx f_11_52 hb_506036 dX11_book_114 ?_
    obtain ⟨x_506046, hx_506046, rx_506046⟩ := ex_get (I := I_506037) (a := b_506036) (j := 6) (lo := (-2147483648)) (hi := 2147483647) hU_506039.1 hb_506036L (ro_o hb_506036k (by decide)) rfl
    refine g_getI C K hb_506036L hb_506036k f_11_346 (v := x_506046) hx_506046 dX11_book_117 ?_
    refine g_if_ne C (tgt := 127) dX11_book_120 (by decide) (fun h_506047 => ?_) (fun h_506047 => ?_)
    · skip
      have n_506048 : ¬ x_506046 = 0 := h_506047
      refine g_aload_n C 0 dX11_book_127 rfl rfl ?_
      refine g_getR C K hLx hkx f_11_52 hb_506036 dX11_book_128 ?_
      obtain ⟨x_506049, hx_506049, rx_506049⟩ := ex_get (I := I_506037) (a := b_506036) (j := 7) (lo := 0) (hi := 40) hU_506039.1 hb_506036L (ro_o hb_506036k (by decide)) rfl
      refine g_getI C K hb_506036L hb_506036k f_11_349 (v := x_506049) hx_506049 dX11_book_131 ?_
      exact g_zret (ty := .int) (r := x_506049) B K rfl (rfl) ⟨hU_506039, hF_506040, hG_506041, rg_all _⟩ dX11_book_134
    · skip
      have r_506050 := (⟨(eq_rg (h_506047) rc_0).1, (eq_rg (h_506047) rc_0).2⟩ : Rg 0 0 x_506046)
      refine g_iconst C (v := (-1)) dX11_book_123 (by decide) ?_
      refine g_goto C (tgt := 134) dX11_book_124 (by decide) ?_
      exact g_zret (ty := .int) (r := (-1)) B K rfl (rfl) ⟨hU_506039, hF_506040, hG_506041, rg_all _⟩ dX11_book_134
  have j_13 : ∀ (I_506051 : Nat → Nat → Int32) (J_506052 : Nat → Nat → Int64) (hU_506053 : Iv L κ R ow I_506051) (hF_506054 : Fq L κ ow [4, 5, 6, 7, 8, 9, 107, 108, 109, 110, 111, 112, 501, 502, 1005, 1006, 1007, 1008, 1009, 1011, 1012, 10000, 10100, 10200, 10300, 16100, 16200, 16300, 16400, 16500, 16600, 70200, 70300] I I_506051) (hG_506055 : Fq L κ ow [1010, 70400] J J_506052) (v_506056 : Int32) (rv_506056 : Rg 0 1 v_506056), WG p l e { frames := 6, cells := 0, slots := 0, locals := 170 } s m ([.ref x, .int a0] : List Value).toArray below meth c 2 0 0 (MQ below (Qi_ D cy L κ ln R (fun r I2 J2 => Iv L κ R ow I2 ∧ Fq L κ ow [4, 5, 6, 7, 8, 9, 107, 108, 109, 110, 111, 112, 501, 502, 1005, 1006, 1007, 1008, 1009, 1011, 1012, 10000, 10100, 10200, 10300, 16100, 16200, 16300, 16400, 16500, 16600, 70200, 70300] I I2 ∧ Fq L κ ow [1010, 70400] J J2 ∧ Rg (-2147483648) 2147483647 r)) ([.ref x, .int a0] : List Value).toArray s 0 0 (Al_ L)) D cy (Al_ L) s.heap L κ ln R I_506051 J_506052 13 [(0, .ref x), (1, .int v_506056)] [] := by
    intro I_506051 J_506052 hU_506053 hF_506054 hG_506055 v_506056 rv_506056
    refine g_aload_n C 0 dX11_book_13 rfl rfl ?_
    refine g_getR C K hLx hkx f_11_52 hb_506036 dX11_book_14 ?_
    refine g_aload_n C 0 dX11_book_17 rfl rfl ?_
    refine g_getR C K hLx hkx f_11_10 hb_506034 dX11_book_18 ?_
    refine g_aload_n C 0 dX11_book_21 rfl rfl ?_
    refine g_getR C K hLx hkx f_11_19 hb_506035 dX11_book_22 ?_
    refine g_callVV C K (c_X0_readFrom W9 hb_506036L hb_506036k hb_506034L hb_506034k hb_506035L hb_506035k  hU_506053) hb_506036L hb_506036k (by decide) rfl v_11_340 rfl ⟨rfl, rfl⟩ ⟨Nat.le_of_ble_eq_true rfl, Nat.le_of_ble_eq_true rfl⟩ (Nat.le_of_ble_eq_true rfl) ⟨Nat.le_of_ble_eq_true rfl, Nat.le_of_ble_eq_true rfl⟩ dX11_book_25 rfl (st := []) (fun I_506058 J_506059 h_506060 => ?_)
    obtain ⟨hUI_506058, hFI_506058, hGJ_506059⟩ := h_506060
    have hF_506061 := fq_tr hF_506054 hFI_506058 (by decide)
    have hG_506062 := fq_tr hG_506055 hGJ_506059 (by decide)
    refine g_aload_n C 0 dX11_book_28 rfl rfl ?_
    refine g_getR C K hLx hkx f_11_10 hb_506034 dX11_book_29 ?_
    refine g_iconst C (v := 0) dX11_book_32 (by decide) ?_
    refine h_putI C K hb_506034L hb_506034k f_11_102 p_10_5 dX11_book_33 (fun I_506063 hI_506063 => ?_)
    have hU_506064 := iv_put W9 hUI_506058 hI_506063 (ro_o hb_506034k (by decide)) (lo := 0) (hi := 940) (rfl) (rg_w rc_0 (by decide) (by decide)) rfl
    have hF_506065 := fq_puto hF_506061 hI_506063 hb_506034k (by decide) (by decide)
    refine g_aload_n C 0 dX11_book_36 rfl rfl ?_
    refine g_getR C K hLx hkx f_11_10 hb_506034 dX11_book_37 ?_
    obtain ⟨x_506066, hx_506066, rx_506066⟩ := ex_get (I := I_506063) (a := b_506034) (j := 11) (lo := (-2147483648)) (hi := 2147483647) hU_506064.1 hb_506034L (ro_o hb_506034k (by decide)) rfl
    refine g_getI C K hb_506034L hb_506034k f_11_113 (v := x_506066) hx_506066 dX11_book_40 ?_
    refine g_if_eq C (tgt := 57) dX11_book_43 (by decide) (fun h_506067 => ?_) (fun h_506067 => ?_)
    · skip
      have r_506068 := (⟨(eq_rg (h_506067) rc_0).1, (eq_rg (h_506067) rc_0).2⟩ : Rg 0 0 x_506066)
      refine g_aload_n C 0 dX11_book_57 rfl rfl ?_
      refine g_getR C K hLx hkx f_11_32 hb_506033 dX11_book_58 ?_
      refine g_aload_n C 0 dX11_book_61 rfl rfl ?_
      refine g_getR C K hLx hkx f_11_28 hb_506032 dX11_book_62 ?_
      refine g_callVV C K (c_X1_become W9 hb_506033L hb_506033k hb_506032L hb_506032k  hU_506064) hb_506033L hb_506033k (by decide) rfl v_11_126 rfl ⟨rfl, rfl⟩ ⟨Nat.le_of_ble_eq_true rfl, Nat.le_of_ble_eq_true rfl⟩ (Nat.le_of_ble_eq_true rfl) ⟨Nat.le_of_ble_eq_true rfl, Nat.le_of_ble_eq_true rfl⟩ dX11_book_65 rfl (st := []) (fun I_506070 J_506071 h_506072 => ?_)
      obtain ⟨hUI_506070, hFI_506070, hGJ_506071⟩ := h_506072
      have hF_506073 := fq_tr hF_506065 hFI_506070 (by decide)
      have hG_506074 := fq_tr hG_506062 hGJ_506071 (by decide)
      refine g_aload_n C 0 dX11_book_68 rfl rfl ?_
      refine g_getR C K hLx hkx f_11_52 hb_506036 dX11_book_69 ?_
      refine g_aload_n C 0 dX11_book_72 rfl rfl ?_
      refine g_getR C K hLx hkx f_11_32 hb_506033 dX11_book_73 ?_
      refine g_callVV C K (c_X0_judgeBy W9 hb_506036L hb_506036k hb_506033L hb_506033k  hUI_506070) hb_506036L hb_506036k (by decide) rfl v_11_343 rfl ⟨rfl, rfl⟩ ⟨Nat.le_of_ble_eq_true rfl, Nat.le_of_ble_eq_true rfl⟩ (Nat.le_of_ble_eq_true rfl) ⟨Nat.le_of_ble_eq_true rfl, Nat.le_of_ble_eq_true rfl⟩ dX11_book_76 rfl (st := []) (fun I_506076 J_506077 h_506078 => ?_)
      obtain ⟨hUI_506076, hFI_506076, hGJ_506077⟩ := h_506078
      have hF_506079 := fq_tr hF_506073 hFI_506076 (by decide)
      have hG_506080 := fq_tr hG_506074 hGJ_506077 (by decide)
      refine g_iload_n C 1 dX11_book_79 rfl rfl ?_
      refine g_iconst C (v := 1) dX11_book_80 (by decide) ?_
      refine g_icmp_ne C (tgt := 113) dX11_book_81 (by decide) (fun h_506081 => ?_) (fun h_506081 => ?_)
      · skip
        have n_506082 : ¬ v_506056 = 1 := h_506081
        have r_506083 := ne_hi (hi := 0) n_506082 rv_506056 rc_1 rfl (by decide)
        refine g_lo (is := [0, 1]) (lo2 := [(0, .ref x), (1, .int v_506056)]) rfl ?_
        exact j_113 I_506076 J_506077 hUI_506076 hF_506079 hG_506080 v_506056 (rg_w r_506083 (by decide) (by decide)) x_506066 (r_506068) (fq_at hFI_506076 hb_506034L hb_506034k (by decide) (by decide) (fq_at hFI_506070 hb_506034L hb_506034k (by decide) (by decide) (kp_s hI_506063))) (fq_at hFI_506076 hb_506034L hb_506034k (by decide) (by decide) (fq_at hFI_506070 hb_506034L hb_506034k (by decide) (by decide) hx_506066))
      · skip
        have r_506084 := (⟨(eq_rg (h_506081) rc_1).1, (rv_506056).2⟩ : Rg 1 1 v_506056)
        refine g_aload_n C 0 dX11_book_84 rfl rfl ?_
        refine g_getR C K hLx hkx f_11_38 hb_506031 dX11_book_85 ?_
        refine g_aload_n C 0 dX11_book_88 rfl rfl ?_
        refine g_getR C K hLx hkx f_11_28 hb_506032 dX11_book_89 ?_
        refine g_callVV C K (c_X5_note W9 hb_506031L hb_506031k hb_506032L hb_506032k  hUI_506076) hb_506031L hb_506031k (by decide) rfl v_11_225 rfl ⟨rfl, rfl⟩ ⟨Nat.le_of_ble_eq_true rfl, Nat.le_of_ble_eq_true rfl⟩ (Nat.le_of_ble_eq_true rfl) ⟨Nat.le_of_ble_eq_true rfl, Nat.le_of_ble_eq_true rfl⟩ dX11_book_92 rfl (st := []) (fun I_506086 J_506087 h_506088 => ?_)
        obtain ⟨hUI_506086, hFI_506086, hGJ_506087⟩ := h_506088
        have hF_506089 := fq_tr hF_506079 hFI_506086 (by decide)
        have hG_506090 := fq_tr hG_506080 hGJ_506087 (by decide)
        refine g_aload_n C 0 dX11_book_95 rfl rfl ?_
        refine g_getR C K hLx hkx f_11_38 hb_506031 dX11_book_96 ?_
        refine g_callVV C K (c_X5_keepNoted W9 hb_506031L hb_506031k   hUI_506086) hb_506031L hb_506031k (by decide) rfl v_11_260 rfl ⟨rfl, rfl⟩ ⟨Nat.le_of_ble_eq_true rfl, Nat.le_of_ble_eq_true rfl⟩ (Nat.le_of_ble_eq_true rfl) ⟨Nat.le_of_ble_eq_true rfl, Nat.le_of_ble_eq_true rfl⟩ dX11_book_99 rfl (st := []) (fun I_506092 J_506093 h_506094 => ?_)
        obtain ⟨hUI_506092, hFI_506092, hGJ_506093⟩ := h_506094
        have hF_506095 := fq_tr hF_506089 hFI_506092 (by decide)
        have hG_506096 := fq_tr hG_506090 hGJ_506093 (by decide)
        refine g_aload_n C 0 dX11_book_102 rfl rfl ?_
        refine g_getR C K hLx hkx f_11_28 hb_506032 dX11_book_103 ?_
        refine g_aload_n C 0 dX11_book_106 rfl rfl ?_
        refine g_getR C K hLx hkx f_11_32 hb_506033 dX11_book_107 ?_
        refine g_callVV C K (c_X1_become W9 hb_506032L hb_506032k hb_506033L hb_506033k  hUI_506092) hb_506032L hb_506032k (by decide) rfl v_11_126 rfl ⟨rfl, rfl⟩ ⟨Nat.le_of_ble_eq_true rfl, Nat.le_of_ble_eq_true rfl⟩ (Nat.le_of_ble_eq_true rfl) ⟨Nat.le_of_ble_eq_true rfl, Nat.le_of_ble_eq_true rfl⟩ dX11_book_110 rfl (st := []) (fun I_506098 J_506099 h_506100 => ?_)
        obtain ⟨hUI_506098, hFI_506098, hGJ_506099⟩ := h_506100
        have hF_506101 := fq_tr hF_506095 hFI_506098 (by decide)
        have hG_506102 := fq_tr hG_506096 hGJ_506099 (by decide)
        have q_506103 := (fq_at hFI_506098 hb_506034L hb_506034k (by decide) (by decide) (fq_at hFI_506092 hb_506034L hb_506034k (by decide) (by decide) (fq_at hFI_506086 hb_506034L hb_506034k (by decide) (by decide) (fq_at hFI_506076 hb_506034L hb_506034k (by decide) (by decide) (fq_at hFI_506070 hb_506034L hb_506034k (by decide) (by decide) (kp_s hI_506063))))))
        have q_506104 := (fq_at hFI_506098 hb_506034L hb_506034k (by decide) (by decide) (fq_at hFI_506092 hb_506034L hb_506034k (by decide) (by decide) (fq_at hFI_506086 hb_506034L hb_506034k (by decide) (by decide) (fq_at hFI_506076 hb_506034L hb_506034k (by decide) (by decide) (fq_at hFI_506070 hb_506034L hb_506034k (by decide) (by decide) hx_506066)))))
        refine g_lo (is := [0, 1]) (lo2 := [(0, .ref x), (1, .int v_506056)]) rfl ?_
        exact j_113 I_506098 J_506099 hUI_506098 hF_506101 hG_506102 v_506056 (rg_w r_506084 (by decide) (by decide)) x_506066 (r_506068) q_506103 q_506104
    · skip
      have n_506105 : ¬ x_506066 = 0 := h_506067
      refine g_bipush C (v := (-2)) dX11_book_46 (by decide) ?_
      refine g_aload_n C 0 dX11_book_48 rfl rfl ?_
      refine g_getR C K hLx hkx f_11_10 hb_506034 dX11_book_49 ?_
      obtain ⟨x_506106, hx_506106, rx_506106⟩ := ex_get (I := I_506063) (a := b_506034) (j := 12) (lo := (-2147483648)) (hi := 2147483647) hU_506064.1 hb_506034L (ro_o hb_506034k (by decide)) rfl
      refine g_getI C K hb_506034L hb_506034k f_11_116 (v := x_506106) hx_506106 dX11_book_52 ?_
      obtain ⟨x_506107, hx_506107, rx_506107⟩ := ex_any (z0 := (-2) - x_506106)
      refine g_isub C (v := x_506107) dX11_book_55 hx_506107 ?_
      exact g_zret (ty := .int) (r := x_506107) B K rfl (rfl) ⟨hU_506064, hF_506065, hG_506062, rx_506107⟩ dX11_book_56
  refine g_iload_n C 1 dX11_book_0 rfl rfl ?_
  refine g_if_eq C (tgt := 13) dX11_book_1 (by decide) (fun h_506108 => ?_) (fun h_506108 => ?_)
  · skip
    have r_506109 := (⟨(eq_rg (h_506108) rc_0).1, (eq_rg (h_506108) rc_0).2⟩ : Rg 0 0 a0)
    refine g_lo (is := [0, 1]) (lo2 := [(0, .ref x), (1, .int a0)]) rfl ?_
    exact j_13 I J hU hF hG a0 (rg_w r_506109 (by decide) (by decide))
  · skip
    have n_506110 : ¬ a0 = 0 := h_506108
    refine g_iload_n C 1 dX11_book_4 rfl rfl ?_
    refine g_iconst C (v := 1) dX11_book_5 (by decide) ?_
    refine g_icmp_eq C (tgt := 13) dX11_book_6 (by decide) (fun h_506111 => ?_) (fun h_506111 => ?_)
    · skip
      have r_506112 := (⟨(eq_rg (h_506111) rc_1).1, (eq_rg (h_506111) rc_1).2⟩ : Rg 1 1 a0)
      refine g_lo (is := [0, 1]) (lo2 := [(0, .ref x), (1, .int a0)]) rfl ?_
      exact j_13 I J hU hF hG a0 (rg_w r_506112 (by decide) (by decide))
    · skip
      have n_506113 : ¬ a0 = 1 := h_506111
      refine g_sipush C (v := (-1000)) dX11_book_9 (by decide) ?_
      exact g_zret (ty := .int) (r := (-1000)) B K rfl (rfl) ⟨hU, hF, hG, rg_all _⟩ dX11_book_12
set_option maxRecDepth 100000 in
set_option maxHeartbeats 8000000 in
theorem c_X11_told {l : Launch} {D : va_G} {cy : Nat → ClassId} {L : List Nat} {κ ln : Nat → Nat} {R : Nat → Nat → Option Nat} {I : Nat → Nat → Int32} {J : Nat → Nat → Int64} {ow : Nat → Nat × Nat} (W9 : ∀ a ∈ L, Shp L κ ln R ow a) {x : Nat} (hLx : x ∈ L) (hkx : κ x = 11) (a0 : Int32) (hU : Iv L κ R ow I) : CtI l yX11_told cX11_told 2 (some .int) { frames := 0, cells := 0, slots := 0, locals := 0 } D cy L κ ln R I J [.ref x, .int a0] (fun r I2 J2 => I = I2 ∧ J = J2 ∧ Rg (-2147483648) 2147483647 r) := by
  refine CtI.of (by decide +kernel) (Nat.le_of_ble_eq_true rfl) ?_
  intro p e s m below meth c B K
  have C := B.1
  obtain ⟨b_506152, hb_506152, hb_506152L, hb_506152k⟩ := shp_o (W9 x hLx) hkx 6 0 rfl (by decide)
  refine g_lo (is := [0, 1]) (lo2 := [(0, .ref x), (1, .int a0)]) rfl ?_
  refine g_aload_n C 0 dX11_told_0 rfl rfl ?_
  refine g_getR C K hLx hkx f_11_52 hb_506152 dX11_told_1 ?_
  obtain ⟨x_506153, hx_506153, rx_506153⟩ := ex_get (I := I) (a := b_506152) (j := 5) (lo := 0) (hi := 1) hU.1 hb_506152L (ro_o hb_506152k (by decide)) rfl
  refine g_getI C K hb_506152L hb_506152k f_11_352 (v := x_506153) hx_506153 dX11_told_4 ?_
  refine g_if_ne C (tgt := 12) dX11_told_7 (by decide) (fun h_506154 => ?_) (fun h_506154 => ?_)
  · skip
    have n_506155 : ¬ x_506153 = 0 := h_506154
    have r_506156 := ne_lo (lo := 1) n_506155 rx_506153 rc_0 rfl (by decide)
    refine g_iload_n C 1 dX11_told_12 rfl rfl ?_
    by_cases c_506157 : a0.toInt = 0
    · skip
      have r_506158 := rg_of (a := 0) (b := 0) 0 c_506157 (by decide) (by decide)
      refine g_tableIn C (tgt := 44) dX11_told_13 (by omega) (by omega) (off := 31) (by rw [c_506157]; rfl) (by decide) ?_
      refine g_aload_n C 0 dX11_told_44 rfl rfl ?_
      refine g_getR C K hLx hkx f_11_52 hb_506152 dX11_told_45 ?_
      obtain ⟨x_506159, hx_506159, rx_506159⟩ := ex_get (I := I) (a := b_506152) (j := 6) (lo := (-2147483648)) (hi := 2147483647) hU.1 hb_506152L (ro_o hb_506152k (by decide)) rfl
      refine g_getI C K hb_506152L hb_506152k f_11_346 (v := x_506159) hx_506159 dX11_told_48 ?_
      exact g_zret (ty := .int) (r := x_506159) B K rfl (rfl) ⟨rfl, rfl, rx_506159⟩ dX11_told_51
    by_cases c_506160 : a0.toInt = 1
    · skip
      have r_506161 := rg_of (a := 1) (b := 1) 1 c_506160 (by decide) (by decide)
      refine g_tableIn C (tgt := 52) dX11_told_13 (by omega) (by omega) (off := 39) (by rw [c_506160]; rfl) (by decide) ?_
      refine g_aload_n C 0 dX11_told_52 rfl rfl ?_
      refine g_getR C K hLx hkx f_11_52 hb_506152 dX11_told_53 ?_
      obtain ⟨x_506162, hx_506162, rx_506162⟩ := ex_get (I := I) (a := b_506152) (j := 7) (lo := 0) (hi := 40) hU.1 hb_506152L (ro_o hb_506152k (by decide)) rfl
      refine g_getI C K hb_506152L hb_506152k f_11_349 (v := x_506162) hx_506162 dX11_told_56 ?_
      exact g_zret (ty := .int) (r := x_506162) B K rfl (rfl) ⟨rfl, rfl, rg_all _⟩ dX11_told_59
    by_cases c_506163 : a0.toInt = 2
    · skip
      have r_506164 := rg_of (a := 2) (b := 2) 2 c_506163 (by decide) (by decide)
      refine g_tableIn C (tgt := 60) dX11_told_13 (by omega) (by omega) (off := 47) (by rw [c_506163]; rfl) (by decide) ?_
      refine g_aload_n C 0 dX11_told_60 rfl rfl ?_
      refine g_getR C K hLx hkx f_11_52 hb_506152 dX11_told_61 ?_
      obtain ⟨x_506165, hx_506165, rx_506165⟩ := ex_get (I := I) (a := b_506152) (j := 8) (lo := (-2147483648)) (hi := 2147483647) hU.1 hb_506152L (ro_o hb_506152k (by decide)) rfl
      refine g_getI C K hb_506152L hb_506152k f_11_356 (v := x_506165) hx_506165 dX11_told_64 ?_
      exact g_zret (ty := .int) (r := x_506165) B K rfl (rfl) ⟨rfl, rfl, rx_506165⟩ dX11_told_67
    by_cases c_506166 : a0.toInt = 3
    · skip
      have r_506167 := rg_of (a := 3) (b := 3) 3 c_506166 (by decide) (by decide)
      refine g_tableIn C (tgt := 68) dX11_told_13 (by omega) (by omega) (off := 55) (by rw [c_506166]; rfl) (by decide) ?_
      refine g_aload_n C 0 dX11_told_68 rfl rfl ?_
      refine g_getR C K hLx hkx f_11_52 hb_506152 dX11_told_69 ?_
      obtain ⟨x_506168, hx_506168, rx_506168⟩ := ex_get (I := I) (a := b_506152) (j := 9) (lo := (-2147483648)) (hi := 2147483647) hU.1 hb_506152L (ro_o hb_506152k (by decide)) rfl
      refine g_getI C K hb_506152L hb_506152k f_11_359 (v := x_506168) hx_506168 dX11_told_72 ?_
      exact g_zret (ty := .int) (r := x_506168) B K rfl (rfl) ⟨rfl, rfl, rx_506168⟩ dX11_told_75
    obtain ⟨q_5061691, q_5061692⟩ := (rg_all a0)
    refine g_tableOut C (tgt := 76) dX11_told_13 (by omega) (by decide) ?_
    refine g_iconst C (v := (-1)) dX11_told_76 (by decide) ?_
    exact g_zret (ty := .int) (r := (-1)) B K rfl (rfl) ⟨rfl, rfl, rg_all _⟩ dX11_told_77
  · skip
    have r_506170 := (⟨(rx_506153).1, (eq_rg (h_506154) rc_0).2⟩ : Rg 0 0 x_506153)
    refine g_iconst C (v := (-1)) dX11_told_10 (by decide) ?_
    exact g_zret (ty := .int) (r := (-1)) B K rfl (rfl) ⟨rfl, rfl, rg_all _⟩ dX11_told_11
set_option maxRecDepth 100000 in
set_option maxHeartbeats 8000000 in
theorem c_X7_become {l : Launch} {D : va_G} {cy : Nat → ClassId} {L : List Nat} {κ ln : Nat → Nat} {R : Nat → Nat → Option Nat} {I : Nat → Nat → Int32} {J : Nat → Nat → Int64} {ow : Nat → Nat × Nat} (W9 : ∀ a ∈ L, Shp L κ ln R ow a) {x : Nat} (hLx : x ∈ L) (hkx : κ x = 7) {a0 : Nat} (hLa0 : a0 ∈ L) (hka0 : κ a0 = 7) (hU : Iv L κ R ow I) : CtV l yX7_become cX7_become 2 none { frames := 1, cells := 0, slots := 0, locals := 60 } D cy L κ ln R I J [.ref x, .ref a0] (fun I2 J2 => Iv L κ R ow I2 ∧ Fq L κ ow [704, 705, 52000, 52100, 52200] I I2 ∧ Fq L κ ow [] J J2) := by
  refine CtV.of (by decide +kernel) (Nat.le_of_ble_eq_true rfl) ?_
  intro p e s m below meth c B K
  have C := B.1
  have hF : Fq L κ ow [704, 705, 52000, 52100, 52200] I I := fq_rf
  have hG : Fq L κ ow [] J J := fq_rf
  obtain ⟨b_506217, hb_506217, hb_506217L, hb_506217k, hb_506217n, hb_506217o⟩ := shp_a (W9 a0 hLa0) hka0 0 14 40 rfl (by decide)
  obtain ⟨b_506218, hb_506218, hb_506218L, hb_506218k, hb_506218n, hb_506218o⟩ := shp_a (W9 a0 hLa0) hka0 2 14 40 rfl (by decide)
  obtain ⟨b_506219, hb_506219, hb_506219L, hb_506219k, hb_506219n, hb_506219o⟩ := shp_a (W9 x hLx) hkx 2 14 40 rfl (by decide)
  obtain ⟨b_506220, hb_506220, hb_506220L, hb_506220k, hb_506220n, hb_506220o⟩ := shp_a (W9 x hLx) hkx 0 14 40 rfl (by decide)
  obtain ⟨b_506221, hb_506221, hb_506221L, hb_506221k, hb_506221n, hb_506221o⟩ := shp_a (W9 a0 hLa0) hka0 1 14 40 rfl (by decide)
  obtain ⟨b_506222, hb_506222, hb_506222L, hb_506222k, hb_506222n, hb_506222o⟩ := shp_a (W9 x hLx) hkx 1 14 40 rfl (by decide)
  have hU0 := hU
  have hU := hU0.1
  refine g_lo (is := [0, 1]) (lo2 := [(0, .ref x), (1, .ref a0)]) rfl ?_
  refine g_aload_n C 1 dX7_become_0 rfl rfl ?_
  refine g_getR C K hLa0 hka0 f_7_11 hb_506217 dX7_become_1 ?_
  refine g_iconst C (v := 0) dX7_become_4 (by decide) ?_
  refine g_aload_n C 0 dX7_become_5 rfl rfl ?_
  refine g_getR C K hLx hkx f_7_11 hb_506220 dX7_become_6 ?_
  refine g_iconst C (v := 0) dX7_become_9 (by decide) ?_
  refine g_bipush C (v := 40) dX7_become_10 (by decide) ?_
  refine h_copyI C K hb_506220L hb_506220k hb_506217L hb_506217k ac_7_31 40 (by decide) (by decide) (by rw [hb_506217n]; decide) (by rw [hb_506220n]; decide) w_cp (Nat.le_of_ble_eq_true rfl) (Nat.le_of_ble_eq_true rfl) dX7_become_12 (fun I_506223 hI_506223 => ?_)
  have hU_506224 := uv_cp hU hb_506217L hI_506223 (ro_a hb_506220k (by decide) hb_506220o hkx rfl) (ro_a hb_506217k (by decide) hb_506217o hka0 rfl)
  have hF_506225 := fq_cp hF hI_506223 (ro_a hb_506220k (by decide) hb_506220o hkx rfl) (by decide) (by decide)
  refine g_aload_n C 1 dX7_become_15 rfl rfl ?_
  refine g_getR C K hLa0 hka0 f_7_15 hb_506221 dX7_become_16 ?_
  refine g_iconst C (v := 0) dX7_become_19 (by decide) ?_
  refine g_aload_n C 0 dX7_become_20 rfl rfl ?_
  refine g_getR C K hLx hkx f_7_15 hb_506222 dX7_become_21 ?_
  refine g_iconst C (v := 0) dX7_become_24 (by decide) ?_
  refine g_bipush C (v := 40) dX7_become_25 (by decide) ?_
  refine h_copyI C K hb_506222L hb_506222k hb_506221L hb_506221k ac_7_31 40 (by decide) (by decide) (by rw [hb_506221n]; decide) (by rw [hb_506222n]; decide) w_cp (Nat.le_of_ble_eq_true rfl) (Nat.le_of_ble_eq_true rfl) dX7_become_27 (fun I_506226 hI_506226 => ?_)
  have hU_506227 := uv_cp hU_506224 hb_506221L hI_506226 (ro_a hb_506222k (by decide) hb_506222o hkx rfl) (ro_a hb_506221k (by decide) hb_506221o hka0 rfl)
  have hF_506228 := fq_cp hF_506225 hI_506226 (ro_a hb_506222k (by decide) hb_506222o hkx rfl) (by decide) (by decide)
  refine g_aload_n C 1 dX7_become_30 rfl rfl ?_
  refine g_getR C K hLa0 hka0 f_7_18 hb_506218 dX7_become_31 ?_
  refine g_iconst C (v := 0) dX7_become_34 (by decide) ?_
  refine g_aload_n C 0 dX7_become_35 rfl rfl ?_
  refine g_getR C K hLx hkx f_7_18 hb_506219 dX7_become_36 ?_
  refine g_iconst C (v := 0) dX7_become_39 (by decide) ?_
  refine g_bipush C (v := 40) dX7_become_40 (by decide) ?_
  refine h_copyI C K hb_506219L hb_506219k hb_506218L hb_506218k ac_7_31 40 (by decide) (by decide) (by rw [hb_506218n]; decide) (by rw [hb_506219n]; decide) w_cp (Nat.le_of_ble_eq_true rfl) (Nat.le_of_ble_eq_true rfl) dX7_become_42 (fun I_506229 hI_506229 => ?_)
  have hU_506230 := uv_cp hU_506227 hb_506218L hI_506229 (ro_a hb_506219k (by decide) hb_506219o hkx rfl) (ro_a hb_506218k (by decide) hb_506218o hka0 rfl)
  have hF_506231 := fq_cp hF_506228 hI_506229 (ro_a hb_506219k (by decide) hb_506219o hkx rfl) (by decide) (by decide)
  refine g_aload_n C 0 dX7_become_45 rfl rfl ?_
  refine g_aload_n C 1 dX7_become_46 rfl rfl ?_
  obtain ⟨x_506232, hx_506232, rx_506232⟩ := ex_get (I := I_506229) (a := a0) (j := 4) (lo := 0) (hi := 40) hU_506230 hLa0 (ro_o hka0 (by decide)) rfl
  refine g_getI C K hLa0 hka0 f_7_24 (v := x_506232) hx_506232 dX7_become_47 ?_
  refine h_putI C K hLx hkx f_7_24 p_7_4 dX7_become_50 (fun I_506233 hI_506233 => ?_)
  have hU_506234 := uv_put hU_506230 hI_506233 (ro_o hkx (by decide)) (lo := 0) (hi := 40) (rfl) (rx_506232)
  have hF_506235 := fq_puto hF_506231 hI_506233 hkx (by decide) (by decide)
  refine g_aload_n C 0 dX7_become_53 rfl rfl ?_
  refine g_aload_n C 1 dX7_become_54 rfl rfl ?_
  obtain ⟨x_506236, hx_506236, rx_506236⟩ := ex_get (I := I_506233) (a := a0) (j := 5) (lo := (-2147483648)) (hi := 2147483647) hU_506234 hLa0 (ro_o hka0 (by decide)) rfl
  refine g_getI C K hLa0 hka0 f_7_28 (v := x_506236) hx_506236 dX7_become_55 ?_
  refine h_putI C K hLx hkx f_7_28 p_7_5 dX7_become_58 (fun I_506237 hI_506237 => ?_)
  have hU_506238 := uv_put hU_506234 hI_506237 (ro_o hkx (by decide)) (lo := (-2147483648)) (hi := 2147483647) (rfl) (rx_506236)
  have hF_506239 := fq_puto hF_506235 hI_506237 hkx (by decide) (by decide)
  exact g_vret B K rfl ⟨iv_bec W9 hU0 hU_506238 hLx hkx hLa0 hka0 hb_506220 hb_506222 hb_506219 hb_506217 hb_506221 hb_506218 hI_506223 hI_506226 hI_506229 hI_506233 hI_506237, hF_506239, hG⟩ dX7_become_61
set_option maxRecDepth 100000 in
set_option maxHeartbeats 8000000 in
theorem c_X7_addStep {l : Launch} {D : va_G} {cy : Nat → ClassId} {L : List Nat} {κ ln : Nat → Nat} {R : Nat → Nat → Option Nat} {I : Nat → Nat → Int32} {J : Nat → Nat → Int64} {ow : Nat → Nat × Nat} (W9 : ∀ a ∈ L, Shp L κ ln R ow a) {x : Nat} (hLx : x ∈ L) (hkx : κ x = 7) (a0 : Int32) (a1 : Int32) (a2 : Int32) (ra1 : Rg 0 62 a1) (hU : Iv L κ R ow I) (h23 : a0 = 23 → Rg 0 5 a2) : CtI l yX7_addStep cX7_addStep 4 (some .boolean) { frames := 0, cells := 0, slots := 0, locals := 0 } D cy L κ ln R I J [.ref x, .int a0, .int a1, .int a2] (fun r I2 J2 => Iv L κ R ow I2 ∧ Fq L κ ow [704, 52000, 52100, 52200] I I2 ∧ Fq L κ ow [] J J2 ∧ Rg 0 1 r) := by
  refine CtI.of (by decide +kernel) (Nat.le_of_ble_eq_true rfl) ?_
  intro p e s m below meth c B K
  have C := B.1
  have hF : Fq L κ ow [704, 52000, 52100, 52200] I I := fq_rf
  have hG : Fq L κ ow [] J J := fq_rf
  obtain ⟨b_506280, hb_506280, hb_506280L, hb_506280k, hb_506280n, hb_506280o⟩ := shp_a (W9 x hLx) hkx 0 14 40 rfl (by decide)
  obtain ⟨b_506281, hb_506281, hb_506281L, hb_506281k, hb_506281n, hb_506281o⟩ := shp_a (W9 x hLx) hkx 1 14 40 rfl (by decide)
  obtain ⟨b_506282, hb_506282, hb_506282L, hb_506282k, hb_506282n, hb_506282o⟩ := shp_a (W9 x hLx) hkx 2 14 40 rfl (by decide)
  have hU0 := hU
  have hU := hU0.1
  refine g_lo (is := [0, 1, 2, 3]) (lo2 := [(0, .ref x), (1, .int a0), (2, .int a1), (3, .int a2)]) rfl ?_
  refine g_aload_n C 0 dX7_addStep_0 rfl rfl ?_
  obtain ⟨x_506283, hx_506283, rx_506283⟩ := ex_get (I := I) (a := x) (j := 4) (lo := 0) (hi := 40) hU hLx (ro_o hkx (by decide)) rfl
  refine g_getI C K hLx hkx f_7_24 (v := x_506283) hx_506283 dX7_addStep_1 ?_
  refine g_bipush C (v := 40) dX7_addStep_4 (by decide) ?_
  refine g_icmp_lt C (tgt := 11) dX7_addStep_6 (by decide) (fun h_506284 => ?_) (fun h_506284 => ?_)
  · skip
    have r_506285 := lt_l (hi := 39) (h_506284) rx_506283 rc_40 (by decide)
    refine g_aload_n C 0 dX7_addStep_11 rfl rfl ?_
    refine g_getR C K hLx hkx f_7_11 hb_506280 dX7_addStep_12 ?_
    refine g_aload_n C 0 dX7_addStep_15 rfl rfl ?_
    refine g_getI C K hLx hkx f_7_24 (v := x_506283) hx_506283 dX7_addStep_16 ?_
    refine g_iload_n C 1 dX7_addStep_19 rfl rfl ?_
    refine h_iast C K hb_506280L hb_506280k (x_506283.toNatClampNeg) (rfl) (ix_0 r_506285 (by decide)) (ix_lt r_506285 (by decide) hb_506280n (by decide)) dX7_addStep_20 (fun I_506286 hI_506286 => ?_)
    have hU_506287 := uv_put hU hI_506286 (ro_a hb_506280k (by decide) hb_506280o hkx rfl) (lo := (-2147483648)) (hi := 2147483647) (rfl) ((rg_all a0))
    have hF_506288 := fq_puta hF hI_506286 (ro_a hb_506280k (by decide) hb_506280o hkx rfl) (by decide) (by decide)
    refine g_aload_n C 0 dX7_addStep_21 rfl rfl ?_
    refine g_getR C K hLx hkx f_7_15 hb_506281 dX7_addStep_22 ?_
    refine g_aload_n C 0 dX7_addStep_25 rfl rfl ?_
    refine g_getI C K hLx hkx f_7_24 (v := x_506283) (kp_k (κ := κ) hI_506286 (by rw [hkx, hb_506280k]; decide) hx_506283) dX7_addStep_26 ?_
    refine g_iload_n C 2 dX7_addStep_29 rfl rfl ?_
    refine h_iast C K hb_506281L hb_506281k (x_506283.toNatClampNeg) (rfl) (ix_0 r_506285 (by decide)) (ix_lt r_506285 (by decide) hb_506281n (by decide)) dX7_addStep_30 (fun I_506289 hI_506289 => ?_)
    have hU_506290 := uv_put hU_506287 hI_506289 (ro_a hb_506281k (by decide) hb_506281o hkx rfl) (lo := (-2147483648)) (hi := 2147483647) (rfl) (rg_all _)
    have hF_506291 := fq_puta hF_506288 hI_506289 (ro_a hb_506281k (by decide) hb_506281o hkx rfl) (by decide) (by decide)
    refine g_aload_n C 0 dX7_addStep_31 rfl rfl ?_
    refine g_getR C K hLx hkx f_7_18 hb_506282 dX7_addStep_32 ?_
    refine g_aload_n C 0 dX7_addStep_35 rfl rfl ?_
    refine g_getI C K hLx hkx f_7_24 (v := x_506283) (kp_k (κ := κ) hI_506289 (by rw [hkx, hb_506281k]; decide) (kp_k (κ := κ) hI_506286 (by rw [hkx, hb_506280k]; decide) hx_506283)) dX7_addStep_36 ?_
    refine g_iload_n C 3 dX7_addStep_39 rfl rfl ?_
    refine h_iast C K hb_506282L hb_506282k (x_506283.toNatClampNeg) (rfl) (ix_0 r_506285 (by decide)) (ix_lt r_506285 (by decide) hb_506282n (by decide)) dX7_addStep_40 (fun I_506292 hI_506292 => ?_)
    have hU_506293 := uv_put hU_506290 hI_506292 (ro_a hb_506282k (by decide) hb_506282o hkx rfl) (lo := (-2147483648)) (hi := 2147483647) (rfl) ((rg_all a2))
    have hF_506294 := fq_puta hF_506291 hI_506292 (ro_a hb_506282k (by decide) hb_506282o hkx rfl) (by decide) (by decide)
    refine g_aload_n C 0 dX7_addStep_41 rfl rfl ?_
    refine g_dup C dX7_addStep_42 rfl ?_
    refine g_getI C K hLx hkx f_7_24 (v := x_506283) (kp_k (κ := κ) hI_506292 (by rw [hkx, hb_506282k]; decide) (kp_k (κ := κ) hI_506289 (by rw [hkx, hb_506281k]; decide) (kp_k (κ := κ) hI_506286 (by rw [hkx, hb_506280k]; decide) hx_506283))) dX7_addStep_43 ?_
    refine g_iconst C (v := 1) dX7_addStep_46 (by decide) ?_
    obtain ⟨x_506295, hx_506295, rx_506295, tx_506295⟩ := ex_add 1 40 r_506285 rc_1 (by decide) (by decide) (by decide) (by decide)
    refine g_iadd C (v := x_506295) dX7_addStep_47 hx_506295 ?_
    refine h_putI C K hLx hkx f_7_24 p_7_4 dX7_addStep_48 (fun I_506296 hI_506296 => ?_)
    have hU_506297 := uv_put hU_506293 hI_506296 (ro_o hkx (by decide)) (lo := 0) (hi := 40) (rfl) (rg_w rx_506295 (by decide) (by decide))
    have hF_506298 := fq_puto hF_506294 hI_506296 hkx (by decide) (by decide)
    refine g_iconst C (v := 1) dX7_addStep_51 (by decide) ?_
    exact g_zret (ty := .boolean) (r := 1) B K rfl (rfl) ⟨iv_add W9 hU0 hU_506297 hLx hkx hb_506280 hb_506281 hb_506282 hI_506286 hI_506289 hI_506292 hI_506296 h23, hF_506298, hG, rg_w rc_1 (by decide) (by decide)⟩ dX7_addStep_52
  · skip
    have r_506299 := le_r (nlt h_506284) rc_40 rx_506283
    refine g_iconst C (v := 0) dX7_addStep_9 (by decide) ?_
    exact g_zret (ty := .boolean) (r := 0) B K rfl (rfl) ⟨hU0, hF, hG, rg_w rc_0 (by decide) (by decide)⟩ dX7_addStep_10
set_option maxRecDepth 100000 in
set_option maxHeartbeats 8000000 in
theorem c_X7_beginsOne {l : Launch} {D : va_G} {cy : Nat → ClassId} {L : List Nat} {κ ln : Nat → Nat} {R : Nat → Nat → Option Nat} {I : Nat → Nat → Int32} {J : Nat → Nat → Int64} {ow : Nat → Nat × Nat} (W9 : ∀ a ∈ L, Shp L κ ln R ow a) (a0 : Int32) (hU : Iv L κ R ow I) : CtI l yX7_beginsOne cX7_beginsOne 1 (some .boolean) { frames := 0, cells := 0, slots := 0, locals := 0 } D cy L κ ln R I J [.int a0] (fun r I2 J2 => I = I2 ∧ J = J2 ∧ Rg 0 1 r) := by
  refine CtI.of (by decide +kernel) (Nat.le_of_ble_eq_true rfl) ?_
  intro p e s m below meth c B K
  have C := B.1
  refine g_lo (is := [0]) (lo2 := [(0, .int a0)]) rfl ?_
  have j_23 : ∀ (v_506324 : Int32) (rv_506324 : Rg 5 40 v_506324), WG p l e { frames := 0, cells := 0, slots := 0, locals := 0 } s m ([.int a0] : List Value).toArray below meth c 1 0 0 (MQ below (Qi_ D cy L κ ln R (fun r I2 J2 => I = I2 ∧ J = J2 ∧ Rg 0 1 r)) ([.int a0] : List Value).toArray s 0 0 (Al_ L)) D cy (Al_ L) s.heap L κ ln R I J 23 [(0, .int v_506324)] [] := by
    intro v_506324 rv_506324
    refine g_iconst C (v := 1) dX7_beginsOne_23 (by decide) ?_
    refine g_goto C (tgt := 28) dX7_beginsOne_24 (by decide) ?_
    exact g_zret (ty := .boolean) (r := 1) B K rfl (rfl) ⟨rfl, rfl, rg_w rc_1 (by decide) (by decide)⟩ dX7_beginsOne_28
  refine g_iload_n C 0 dX7_beginsOne_0 rfl rfl ?_
  refine g_bipush C (v := 40) dX7_beginsOne_1 (by decide) ?_
  refine g_icmp_eq C (tgt := 23) dX7_beginsOne_3 (by decide) (fun h_506325 => ?_) (fun h_506325 => ?_)
  · skip
    have r_506326 := (⟨(eq_rg (h_506325) rc_40).1, (eq_rg (h_506325) rc_40).2⟩ : Rg 40 40 a0)
    refine g_lo (is := [0]) (lo2 := [(0, .int a0)]) rfl ?_
    exact j_23 a0 (rg_w r_506326 (by decide) (by decide))
  · skip
    have n_506327 : ¬ a0 = 40 := h_506325
    refine g_iload_n C 0 dX7_beginsOne_6 rfl rfl ?_
    refine g_iconst C (v := 5) dX7_beginsOne_7 (by decide) ?_
    refine g_icmp_eq C (tgt := 23) dX7_beginsOne_8 (by decide) (fun h_506328 => ?_) (fun h_506328 => ?_)
    · skip
      have r_506329 := (⟨(eq_rg (h_506328) rc_5).1, (eq_rg (h_506328) rc_5).2⟩ : Rg 5 5 a0)
      refine g_lo (is := [0]) (lo2 := [(0, .int a0)]) rfl ?_
      exact j_23 a0 (rg_w r_506329 (by decide) (by decide))
    · skip
      have n_506330 : ¬ a0 = 5 := h_506328
      refine g_iload_n C 0 dX7_beginsOne_11 rfl rfl ?_
      refine g_bipush C (v := 19) dX7_beginsOne_12 (by decide) ?_
      refine g_icmp_lt C (tgt := 27) dX7_beginsOne_14 (by decide) (fun h_506331 => ?_) (fun h_506331 => ?_)
      · skip
        have r_506332 := lt_l (hi := 18) (h_506331) (rg_all a0) rc_19 (by decide)
        refine g_iconst C (v := 0) dX7_beginsOne_27 (by decide) ?_
        exact g_zret (ty := .boolean) (r := 0) B K rfl (rfl) ⟨rfl, rfl, rg_w rc_0 (by decide) (by decide)⟩ dX7_beginsOne_28
      · skip
        have r_506333 := le_r (nlt h_506331) rc_19 (rg_all a0)
        refine g_iload_n C 0 dX7_beginsOne_17 rfl rfl ?_
        refine g_bipush C (v := 27) dX7_beginsOne_18 (by decide) ?_
        refine g_icmp_gt C (tgt := 27) dX7_beginsOne_20 (by decide) (fun h_506334 => ?_) (fun h_506334 => ?_)
        · skip
          have r_506335 := lt_r (lo := 28) (h_506334) rc_27 r_506333 (by decide)
          refine g_iconst C (v := 0) dX7_beginsOne_27 (by decide) ?_
          exact g_zret (ty := .boolean) (r := 0) B K rfl (rfl) ⟨rfl, rfl, rg_w rc_0 (by decide) (by decide)⟩ dX7_beginsOne_28
        · skip
          have r_506336 := le_l (nlt h_506334) r_506333 rc_27
          refine g_lo (is := [0]) (lo2 := [(0, .int a0)]) rfl ?_
          exact j_23 a0 (rg_w r_506336 (by decide) (by decide))
set_option maxRecDepth 100000 in
set_option maxHeartbeats 8000000 in
theorem c_X7_readOne_9 {l : Launch} {D : va_G} {cy : Nat → ClassId} {L : List Nat} {κ ln : Nat → Nat} {R : Nat → Nat → Option Nat} {I : Nat → Nat → Int32} {J : Nat → Nat → Int64} {ow : Nat → Nat × Nat} (W9 : ∀ a ∈ L, Shp L κ ln R ow a) {x : Nat} (hLx : x ∈ L) (hkx : κ x = 7) {a0 : Nat} (hLa0 : a0 ∈ L) (hka0 : κ a0 = 10) {a1 : Nat} (hLa1 : a1 ∈ L) (hka1 : κ a1 = 8) (a2 : Int32) (ra2 : Rg 9 9 a2) (hU : Iv L κ R ow I) : CtI l yX7_readOne cX7_readOne 5 (some .boolean) { frames := 1, cells := 0, slots := 0, locals := 21 } D cy L κ ln R I J [.ref x, .ref a0, .ref a1, .int a2] (fun r I2 J2 => Iv L κ R ow I2 ∧ Fq L κ ow [1011, 1012] I I2 ∧ Fq L κ ow [] J J2 ∧ Rg 0 0 r) := by
  refine CtI.of (by decide +kernel) (Nat.le_of_ble_eq_true rfl) ?_
  intro p e s m below meth c B K
  have C := B.1
  have hF : Fq L κ ow [1011, 1012] I I := fq_rf
  have hG : Fq L κ ow [] J J := fq_rf
  refine g_lo (is := [0, 1, 2, 3]) (lo2 := [(0, .ref x), (1, .ref a0), (2, .ref a1), (3, .int a2)]) rfl ?_
  have j_35 : ∀ (I_506391 : Nat → Nat → Int32) (J_506392 : Nat → Nat → Int64) (hU_506393 : Iv L κ R ow I_506391) (hF_506394 : Fq L κ ow [1011, 1012] I I_506391) (hG_506395 : Fq L κ ow [] J J_506392) (v_506396 : Int32) (rv_506396 : Rg 9 9 v_506396) (v_506397 : Int32) (v_506398 : Int32) (q_506399 : I_506391 a0 8 = v_506397) (q_506400 : I_506391 x 5 = v_506398), WG p l e { frames := 1, cells := 0, slots := 0, locals := 21 } s m ([.ref x, .ref a0, .ref a1, .int a2] : List Value).toArray below meth c 5 0 0 (MQ below (Qi_ D cy L κ ln R (fun r I2 J2 => Iv L κ R ow I2 ∧ Fq L κ ow [1011, 1012] I I2 ∧ Fq L κ ow [] J J2 ∧ Rg 0 0 r)) ([.ref x, .ref a0, .ref a1, .int a2] : List Value).toArray s 0 0 (Al_ L)) D cy (Al_ L) s.heap L κ ln R I_506391 J_506392 35 [(0, .ref x), (1, .ref a0), (2, .ref a1), (3, .int v_506396), (4, .int v_506397)] [] := by
    intro I_506391 J_506392 hU_506393 hF_506394 hG_506395 v_506396 rv_506396 v_506397 v_506398 q_506399 q_506400
    refine g_aload_n C 1 dX7_readOne_35 rfl rfl ?_
    refine g_iconst C (v := 4) dX7_readOne_36 (by decide) ?_
    refine g_callVI C K (c_X10_fail W9 hLa0 hka0 4 (rg_w rc_4 (by decide) (by decide)) hU_506393) hLa0 hka0 (by decide) rfl v_7_73 rfl ⟨rfl, rfl⟩ ⟨Nat.le_of_ble_eq_true rfl, Nat.le_of_ble_eq_true rfl⟩ (Nat.le_of_ble_eq_true rfl) ⟨Nat.le_of_ble_eq_true rfl, Nat.le_of_ble_eq_true rfl⟩ dX7_readOne_37 rfl (st := []) (fun x_506401 I_506402 J_506403 h_506404 => ?_)
    obtain ⟨hUI_506402, hFI_506402, hGJ_506403, rx_506401⟩ := h_506404
    have hF_506405 := fq_tr hF_506394 hFI_506402 (by decide)
    have hG_506406 := fq_tr hG_506395 hGJ_506403 (by decide)
    exact g_zret (ty := .boolean) (r := x_506401) B K rfl (nar_z (rg_w rx_506401 (by decide) (by decide))) ⟨hUI_506402, hF_506405, hG_506406, rx_506401⟩ dX7_readOne_40
  refine g_aload_n C 1 dX7_readOne_0 rfl rfl ?_
  obtain ⟨x_506407, hx_506407, rx_506407⟩ := ex_get (I := I) (a := a0) (j := 8) (lo := (-2147483648)) (hi := 2147483647) hU.1 hLa0 (ro_o hka0 (by decide)) rfl
  refine g_getI C K hLa0 hka0 f_7_57 (v := x_506407) hx_506407 dX7_readOne_1 ?_
  refine g_istore C dX7_readOne_4 (by decide) (lo2 := [(4, .int x_506407), (0, .ref x), (1, .ref a0), (2, .ref a1), (3, .int a2)]) rfl ?_
  refine g_iload C 0 dX7_readOne_6 rfl ?_
  refine g_callSI C K (c_X7_beginsOne W9 x_506407  hU) s_7_70 rfl ⟨rfl, rfl⟩ ⟨Nat.le_of_ble_eq_true rfl, Nat.le_of_ble_eq_true rfl⟩ (Nat.le_of_ble_eq_true rfl) ⟨Nat.le_of_ble_eq_true rfl, Nat.le_of_ble_eq_true rfl⟩ dX7_readOne_8 rfl (st := []) (fun x_506408 I_506409 J_506410 h_506411 => ?_)
  obtain ⟨rfl, rfl, rx_506408⟩ := h_506411
  refine g_if_ne C (tgt := 20) dX7_readOne_11 (by decide) (fun h_506412 => ?_) (fun h_506412 => ?_)
  · skip
    have n_506413 : ¬ x_506408 = 0 := h_506412
    have r_506414 := ne_lo (lo := 1) n_506413 rx_506408 rc_0 rfl (by decide)
    refine g_aload_n C 1 dX7_readOne_20 rfl rfl ?_
    obtain ⟨x_506415, hx_506415, rx_506415⟩ := ex_get (I := I) (a := x) (j := 5) (lo := (-2147483648)) (hi := 2147483647) hU.1 hLx (ro_o hkx (by decide)) rfl
    refine g_getI C K hLx hkx f_7_28 (v := x_506415) hx_506415 dX7_readOne_21 ?_
    refine g_bipush C (v := 20) dX7_readOne_24 (by decide) ?_
    refine g_icmp_ge C (tgt := 35) dX7_readOne_26 (by decide) (fun h_506416 => ?_) (fun h_506416 => ?_)
    · skip
      have r_506417 := le_r (h_506416) rc_20 rx_506415
      refine g_lo (is := [1, 2, 3, 4, 0]) (lo2 := [(0, .ref x), (1, .ref a0), (2, .ref a1), (3, .int a2), (4, .int x_506407)]) rfl ?_
      exact j_35 I J hU hF hG a2 (ra2) x_506407 x_506415 hx_506407 hx_506415
    · skip
      have r_506418 := lt_l (hi := 19) (nle h_506416) rx_506415 rc_20 (by decide)
      refine g_iload_n C 4 dX7_readOne_29 rfl rfl ?_
      refine g_bipush C (v := 8) dX7_readOne_30 (by decide) ?_
      refine g_icmp_le C (tgt := 41) dX7_readOne_32 (by decide) (fun h_506419 => ?_) (fun h_506419 => ?_)
      · skip
        have r_506420 := le_l (h_506419) ra2 rc_8
        exact rg_no r_506420 (by decide)
      · skip
        refine g_lo (is := [1, 2, 3, 4, 0]) (lo2 := [(0, .ref x), (1, .ref a0), (2, .ref a1), (3, .int a2), (4, .int x_506407)]) rfl ?_
        exact j_35 I J hU hF hG a2 (ra2) x_506407 x_506415 hx_506407 hx_506415
  · skip
    have r_506421 := (⟨(rx_506408).1, (eq_rg (h_506412) rc_0).2⟩ : Rg 0 0 x_506408)
    refine g_aload_n C 2 dX7_readOne_14 rfl rfl ?_
    refine g_iconst C (v := 1) dX7_readOne_15 (by decide) ?_
    refine g_callVI C K (c_X10_fail W9 hLa0 hka0 1 (rg_w rc_1 (by decide) (by decide)) hU) hLa0 hka0 (by decide) rfl v_7_73 rfl ⟨rfl, rfl⟩ ⟨Nat.le_of_ble_eq_true rfl, Nat.le_of_ble_eq_true rfl⟩ (Nat.le_of_ble_eq_true rfl) ⟨Nat.le_of_ble_eq_true rfl, Nat.le_of_ble_eq_true rfl⟩ dX7_readOne_16 rfl (st := []) (fun x_506422 I_506423 J_506424 h_506425 => ?_)
    obtain ⟨hUI_506423, hFI_506423, hGJ_506424, rx_506422⟩ := h_506425
    have hF_506426 := fq_tr hF hFI_506423 (by decide)
    have hG_506427 := fq_tr hG hGJ_506424 (by decide)
    exact g_zret (ty := .boolean) (r := x_506422) B K rfl (nar_z (rg_w rx_506422 (by decide) (by decide))) ⟨hUI_506423, hF_506426, hG_506427, rx_506422⟩ dX7_readOne_19
set_option maxRecDepth 100000 in
set_option maxHeartbeats 8000000 in
theorem c_X7_readAll_9 {l : Launch} {D : va_G} {cy : Nat → ClassId} {L : List Nat} {κ ln : Nat → Nat} {R : Nat → Nat → Option Nat} {I : Nat → Nat → Int32} {J : Nat → Nat → Int64} {ow : Nat → Nat × Nat} (W9 : ∀ a ∈ L, Shp L κ ln R ow a) {x : Nat} (hLx : x ∈ L) (hkx : κ x = 7) {a0 : Nat} (hLa0 : a0 ∈ L) (hka0 : κ a0 = 10) {a1 : Nat} (hLa1 : a1 ∈ L) (hka1 : κ a1 = 8) (a2 : Int32) (ra2 : Rg 9 9 a2) (hU : Iv L κ R ow I) : CtI l yX7_readAll cX7_readAll 6 (some .boolean) { frames := 2, cells := 0, slots := 0, locals := 45 } D cy L κ ln R I J [.ref x, .ref a0, .ref a1, .int a2] (fun r I2 J2 => Iv L κ R ow I2 ∧ Fq L κ ow [1011, 1012] I I2 ∧ Fq L κ ow [] J J2 ∧ Rg 0 0 r) := by
  refine CtI.of (by decide +kernel) (Nat.le_of_ble_eq_true rfl) ?_
  intro p e s m below meth c B K
  have C := B.1
  have hF : Fq L κ ow [1011, 1012] I I := fq_rf
  have hG : Fq L κ ow [] J J := fq_rf
  refine g_lo (is := [0, 1, 2, 3]) (lo2 := [(0, .ref x), (1, .ref a0), (2, .ref a1), (3, .int a2)]) rfl ?_
  have j_12 : ∀ (I_506444 : Nat → Nat → Int32) (J_506445 : Nat → Nat → Int64) (hU_506446 : Iv L κ R ow I_506444) (hF_506447 : Fq L κ ow [1011, 1012] I I_506444) (hG_506448 : Fq L κ ow [] J J_506445) (v_506449 : Int32) (rv_506449 : Rg 9 9 v_506449) (v_506450 : Int32) (rv_506450 : Rg 0 0 v_506450), WG p l e { frames := 2, cells := 0, slots := 0, locals := 45 } s m ([.ref x, .ref a0, .ref a1, .int a2] : List Value).toArray below meth c 6 0 0 (MQ below (Qi_ D cy L κ ln R (fun r I2 J2 => Iv L κ R ow I2 ∧ Fq L κ ow [1011, 1012] I I2 ∧ Fq L κ ow [] J J2 ∧ Rg 0 0 r)) ([.ref x, .ref a0, .ref a1, .int a2] : List Value).toArray s 0 0 (Al_ L)) D cy (Al_ L) s.heap L κ ln R I_506444 J_506445 12 [(0, .ref x), (1, .ref a0), (2, .ref a1), (3, .int v_506449), (4, .int v_506450), (5, .int 0)] [] := by
    intro I_506444 J_506445 hU_506446 hF_506447 hG_506448 v_506449 rv_506449 v_506450 rv_506450
    refine g_iload C 5 dX7_readAll_12 rfl ?_
    refine g_bipush C (v := 20) dX7_readAll_14 (by decide) ?_
    refine g_icmp_ge C (tgt := 71) dX7_readAll_16 (by decide) (fun h_506451 => ?_) (fun h_506451 => ?_)
    · skip
      exact absurd h_506451 (by decide)
    · skip
      refine g_iload C 4 dX7_readAll_19 rfl ?_
      refine g_if_eq C (tgt := 71) dX7_readAll_21 (by decide) (fun h_506452 => ?_) (fun h_506452 => ?_)
      · skip
        refine g_iload C 4 dX7_readAll_71 rfl ?_
        exact g_zret (ty := .boolean) (r := v_506450) B K rfl (nar_z (rg_w rv_506450 (by decide) (by decide))) ⟨hU_506446, hF_506447, hG_506448, rv_506450⟩ dX7_readAll_73
      · skip
        exact ne_no (h_506452) rv_506450 rc_0
  refine g_aload_n C 0 dX7_readAll_0 rfl rfl ?_
  refine g_aload_n C 1 dX7_readAll_1 rfl rfl ?_
  refine g_aload_n C 2 dX7_readAll_2 rfl rfl ?_
  refine g_iload_n C 3 dX7_readAll_3 rfl rfl ?_
  refine g_callVI C K (c_X7_readOne_9 W9 hLx hkx hLa0 hka0 hLa1 hka1 a2 (ra2) hU) hLx hkx (by decide) rfl v_7_67 rfl ⟨rfl, rfl⟩ ⟨Nat.le_of_ble_eq_true rfl, Nat.le_of_ble_eq_true rfl⟩ (Nat.le_of_ble_eq_true rfl) ⟨Nat.le_of_ble_eq_true rfl, Nat.le_of_ble_eq_true rfl⟩ dX7_readAll_4 rfl (st := []) (fun x_506453 I_506454 J_506455 h_506456 => ?_)
  obtain ⟨hUI_506454, hFI_506454, hGJ_506455, rx_506453⟩ := h_506456
  have hF_506457 := fq_tr hF hFI_506454 (by decide)
  have hG_506458 := fq_tr hG hGJ_506455 (by decide)
  refine g_istore C dX7_readAll_7 (by decide) (lo2 := [(4, .int x_506453), (0, .ref x), (1, .ref a0), (2, .ref a1), (3, .int a2)]) rfl ?_
  refine g_iconst C (v := 0) dX7_readAll_9 (by decide) ?_
  refine g_istore C dX7_readAll_10 (by decide) (lo2 := [(5, .int 0), (4, .int x_506453), (0, .ref x), (1, .ref a0), (2, .ref a1), (3, .int a2)]) rfl ?_
  refine g_lo (is := [2, 3, 4, 5, 1, 0]) (lo2 := [(0, .ref x), (1, .ref a0), (2, .ref a1), (3, .int a2), (4, .int x_506453), (5, .int 0)]) rfl ?_
  exact j_12 I_506454 J_506455 hUI_506454 hF_506457 hG_506458 a2 (ra2) x_506453 (rx_506453)
set_option maxRecDepth 100000 in
set_option maxHeartbeats 8000000 in
theorem c_X7_readCond_9 {l : Launch} {D : va_G} {cy : Nat → ClassId} {L : List Nat} {κ ln : Nat → Nat} {R : Nat → Nat → Option Nat} {I : Nat → Nat → Int32} {J : Nat → Nat → Int64} {ow : Nat → Nat × Nat} (W9 : ∀ a ∈ L, Shp L κ ln R ow a) {x : Nat} (hLx : x ∈ L) (hkx : κ x = 7) {a0 : Nat} (hLa0 : a0 ∈ L) (hka0 : κ a0 = 10) {a1 : Nat} (hLa1 : a1 ∈ L) (hka1 : κ a1 = 8) (a2 : Int32) (ra2 : Rg 9 9 a2) (hU : Iv L κ R ow I) : CtI l yX7_readCond cX7_readCond 6 (some .boolean) { frames := 3, cells := 0, slots := 0, locals := 70 } D cy L κ ln R I J [.ref x, .ref a0, .ref a1, .int a2] (fun r I2 J2 => Iv L κ R ow I2 ∧ Fq L κ ow [1011, 1012] I I2 ∧ Fq L κ ow [] J J2 ∧ Rg 0 0 r) := by
  refine CtI.of (by decide +kernel) (Nat.le_of_ble_eq_true rfl) ?_
  intro p e s m below meth c B K
  have C := B.1
  have hF : Fq L κ ow [1011, 1012] I I := fq_rf
  have hG : Fq L κ ow [] J J := fq_rf
  refine g_lo (is := [0, 1, 2, 3]) (lo2 := [(0, .ref x), (1, .ref a0), (2, .ref a1), (3, .int a2)]) rfl ?_
  have j_12 : ∀ (I_506475 : Nat → Nat → Int32) (J_506476 : Nat → Nat → Int64) (hU_506477 : Iv L κ R ow I_506475) (hF_506478 : Fq L κ ow [1011, 1012] I I_506475) (hG_506479 : Fq L κ ow [] J J_506476) (v_506480 : Int32) (rv_506480 : Rg 9 9 v_506480) (v_506481 : Int32) (rv_506481 : Rg 0 0 v_506481), WG p l e { frames := 3, cells := 0, slots := 0, locals := 70 } s m ([.ref x, .ref a0, .ref a1, .int a2] : List Value).toArray below meth c 6 0 0 (MQ below (Qi_ D cy L κ ln R (fun r I2 J2 => Iv L κ R ow I2 ∧ Fq L κ ow [1011, 1012] I I2 ∧ Fq L κ ow [] J J2 ∧ Rg 0 0 r)) ([.ref x, .ref a0, .ref a1, .int a2] : List Value).toArray s 0 0 (Al_ L)) D cy (Al_ L) s.heap L κ ln R I_506475 J_506476 12 [(0, .ref x), (1, .ref a0), (2, .ref a1), (3, .int v_506480), (4, .int v_506481), (5, .int 0)] [] := by
    intro I_506475 J_506476 hU_506477 hF_506478 hG_506479 v_506480 rv_506480 v_506481 rv_506481
    refine g_iload C 5 dX7_readCond_12 rfl ?_
    refine g_bipush C (v := 20) dX7_readCond_14 (by decide) ?_
    refine g_icmp_ge C (tgt := 71) dX7_readCond_16 (by decide) (fun h_506482 => ?_) (fun h_506482 => ?_)
    · skip
      exact absurd h_506482 (by decide)
    · skip
      refine g_iload C 4 dX7_readCond_19 rfl ?_
      refine g_if_eq C (tgt := 71) dX7_readCond_21 (by decide) (fun h_506483 => ?_) (fun h_506483 => ?_)
      · skip
        refine g_iload C 4 dX7_readCond_71 rfl ?_
        exact g_zret (ty := .boolean) (r := v_506481) B K rfl (nar_z (rg_w rv_506481 (by decide) (by decide))) ⟨hU_506477, hF_506478, hG_506479, rv_506481⟩ dX7_readCond_73
      · skip
        exact ne_no (h_506483) rv_506481 rc_0
  refine g_aload_n C 0 dX7_readCond_0 rfl rfl ?_
  refine g_aload_n C 1 dX7_readCond_1 rfl rfl ?_
  refine g_aload_n C 2 dX7_readCond_2 rfl rfl ?_
  refine g_iload_n C 3 dX7_readCond_3 rfl rfl ?_
  refine g_callVI C K (c_X7_readAll_9 W9 hLx hkx hLa0 hka0 hLa1 hka1 a2 (ra2) hU) hLx hkx (by decide) rfl v_7_54 rfl ⟨rfl, rfl⟩ ⟨Nat.le_of_ble_eq_true rfl, Nat.le_of_ble_eq_true rfl⟩ (Nat.le_of_ble_eq_true rfl) ⟨Nat.le_of_ble_eq_true rfl, Nat.le_of_ble_eq_true rfl⟩ dX7_readCond_4 rfl (st := []) (fun x_506484 I_506485 J_506486 h_506487 => ?_)
  obtain ⟨hUI_506485, hFI_506485, hGJ_506486, rx_506484⟩ := h_506487
  have hF_506488 := fq_tr hF hFI_506485 (by decide)
  have hG_506489 := fq_tr hG hGJ_506486 (by decide)
  refine g_istore C dX7_readCond_7 (by decide) (lo2 := [(4, .int x_506484), (0, .ref x), (1, .ref a0), (2, .ref a1), (3, .int a2)]) rfl ?_
  refine g_iconst C (v := 0) dX7_readCond_9 (by decide) ?_
  refine g_istore C dX7_readCond_10 (by decide) (lo2 := [(5, .int 0), (4, .int x_506484), (0, .ref x), (1, .ref a0), (2, .ref a1), (3, .int a2)]) rfl ?_
  refine g_lo (is := [2, 3, 4, 5, 1, 0]) (lo2 := [(0, .ref x), (1, .ref a0), (2, .ref a1), (3, .int a2), (4, .int x_506484), (5, .int 0)]) rfl ?_
  exact j_12 I_506485 J_506486 hUI_506485 hF_506488 hG_506489 a2 (ra2) x_506484 (rx_506484)
set_option maxRecDepth 100000 in
set_option maxHeartbeats 8000000 in
theorem c_X7_readPlainOne {l : Launch} {D : va_G} {cy : Nat → ClassId} {L : List Nat} {κ ln : Nat → Nat} {R : Nat → Nat → Option Nat} {I : Nat → Nat → Int32} {J : Nat → Nat → Int64} {ow : Nat → Nat × Nat} (W9 : ∀ a ∈ L, Shp L κ ln R ow a) {x : Nat} (hLx : x ∈ L) (hkx : κ x = 7) {a0 : Nat} (hLa0 : a0 ∈ L) (hka0 : κ a0 = 10) {a1 : Nat} (hLa1 : a1 ∈ L) (hka1 : κ a1 = 8) (a2 : Int32) (hU : Iv L κ R ow I) : CtI l yX7_readPlainOne cX7_readPlainOne 6 (some .boolean) { frames := 2, cells := 0, slots := 0, locals := 44 } D cy L κ ln R I J [.ref x, .ref a0, .ref a1, .int a2] (fun r I2 J2 => Iv L κ R ow I2 ∧ Fq L κ ow [704, 1007, 1008, 1009, 1011, 1012, 52000, 52100, 52200] I I2 ∧ Fq L κ ow [1010] J J2 ∧ Rg 0 1 r) := by
  refine CtI.of (by decide +kernel) (Nat.le_of_ble_eq_true rfl) ?_
  intro p e s m below meth c B K
  have C := B.1
  have hF : Fq L κ ow [704, 1007, 1008, 1009, 1011, 1012, 52000, 52100, 52200] I I := fq_rf
  have hG : Fq L κ ow [1010] J J := fq_rf
  refine g_lo (is := [0, 1, 2, 3]) (lo2 := [(0, .ref x), (1, .ref a0), (2, .ref a1), (3, .int a2)]) rfl ?_
  have j_132 : ∀ (I_506712 : Nat → Nat → Int32) (J_506713 : Nat → Nat → Int64) (hU_506714 : Iv L κ R ow I_506712) (hF_506715 : Fq L κ ow [704, 1007, 1008, 1009, 1011, 1012, 52000, 52100, 52200] I I_506712) (hG_506716 : Fq L κ ow [1010] J J_506713) (v_506717 : Int32) (rv_506717 : Rg 24 2147483647 v_506717) (nv_506717_5 : ¬ v_506717 = 5) (nv_506717_23 : ¬ v_506717 = 23) (v_506718 : Int32) (rv_506718 : Rg 60 62 v_506718) (q_506719 : I_506712 a0 8 = v_506718), WG p l e { frames := 2, cells := 0, slots := 0, locals := 44 } s m ([.ref x, .ref a0, .ref a1, .int a2] : List Value).toArray below meth c 6 0 0 (MQ below (Qi_ D cy L κ ln R (fun r I2 J2 => Iv L κ R ow I2 ∧ Fq L κ ow [704, 1007, 1008, 1009, 1011, 1012, 52000, 52100, 52200] I I2 ∧ Fq L κ ow [1010] J J2 ∧ Rg 0 1 r)) ([.ref x, .ref a0, .ref a1, .int a2] : List Value).toArray s 0 0 (Al_ L)) D cy (Al_ L) s.heap L κ ln R I_506712 J_506713 132 [(0, .ref x), (1, .ref a0), (2, .ref a1), (3, .int v_506717), (4, .int v_506718)] [] := by
    intro I_506712 J_506713 hU_506714 hF_506715 hG_506716 v_506717 rv_506717 nv_506717_5 nv_506717_23 v_506718 rv_506718 q_506719
    refine g_aload_n C 1 dX7_readPlainOne_132 rfl rfl ?_
    refine g_callVV C K (c_X10_advance W9 hLa0 hka0   hU_506714) hLa0 hka0 (by decide) rfl v_7_60 rfl ⟨rfl, rfl⟩ ⟨Nat.le_of_ble_eq_true rfl, Nat.le_of_ble_eq_true rfl⟩ (Nat.le_of_ble_eq_true rfl) ⟨Nat.le_of_ble_eq_true rfl, Nat.le_of_ble_eq_true rfl⟩ dX7_readPlainOne_133 rfl (st := []) (fun I_506721 J_506722 h_506723 => ?_)
    obtain ⟨hUI_506721, hFI_506721, hGJ_506722⟩ := h_506723
    have hF_506724 := fq_tr hF_506715 hFI_506721 (by decide)
    have hG_506725 := fq_tr hG_506716 hGJ_506722 (by decide)
    refine g_aload_n C 1 dX7_readPlainOne_136 rfl rfl ?_
    refine g_iconst C (v := 0) dX7_readPlainOne_137 (by decide) ?_
    refine g_sipush C (v := 999) dX7_readPlainOne_138 (by decide) ?_
    refine g_callVI C K (c_X10_takeNumber W9 hLa0 hka0 0 999 (rg_w rc_0 (by decide) (by decide)) (rg_w rc_999 (by decide) (by decide)) hUI_506721) hLa0 hka0 (by decide) rfl v_7_96 rfl ⟨rfl, rfl⟩ ⟨Nat.le_of_ble_eq_true rfl, Nat.le_of_ble_eq_true rfl⟩ (Nat.le_of_ble_eq_true rfl) ⟨Nat.le_of_ble_eq_true rfl, Nat.le_of_ble_eq_true rfl⟩ dX7_readPlainOne_141 rfl (st := []) (fun x_506726 I_506727 J_506728 h_506729 => ?_)
    obtain ⟨hUI_506727, hFI_506727, hGJ_506728, rx_506726⟩ := h_506729
    have hF_506730 := fq_tr hF_506724 hFI_506727 (by decide)
    have hG_506731 := fq_tr hG_506725 hGJ_506728 (by decide)
    refine g_istore C dX7_readPlainOne_144 (by decide) (lo2 := [(5, .int x_506726), (0, .ref x), (1, .ref a0), (2, .ref a1), (3, .int v_506717), (4, .int v_506718)]) rfl ?_
    refine g_iload C 0 dX7_readPlainOne_146 rfl ?_
    refine g_iconst C (v := (-1)) dX7_readPlainOne_148 (by decide) ?_
    refine g_icmp_eq C (tgt := 168) dX7_readPlainOne_149 (by decide) (fun h_506732 => ?_) (fun h_506732 => ?_)
    · skip
      have r_506733 := (⟨(eq_rg (h_506732) rc_m1).1, (eq_rg (h_506732) rc_m1).2⟩ : Rg (-1) (-1) x_506726)
      refine g_iconst C (v := 0) dX7_readPlainOne_168 (by decide) ?_
      exact g_zret (ty := .boolean) (r := 0) B K rfl (rfl) ⟨hUI_506727, hF_506730, hG_506731, rg_w rc_0 (by decide) (by decide)⟩ dX7_readPlainOne_169
    · skip
      have n_506734 : ¬ x_506726 = (-1) := h_506732
      refine g_aload_n C 1 dX7_readPlainOne_152 rfl rfl ?_
      refine g_iload_n C 4 dX7_readPlainOne_153 rfl rfl ?_
      refine g_iload C 5 dX7_readPlainOne_154 rfl ?_
      refine g_iload C 0 dX7_readPlainOne_156 rfl ?_
      refine g_callVI C K (c_X7_addStep W9 hLx hkx v_506717 v_506718 x_506726 (rg_w rv_506718 (by decide) (by decide)) hUI_506727  (fun q => absurd q nv_506717_23)) hLx hkx (by decide) rfl v_7_63 rfl ⟨rfl, rfl⟩ ⟨Nat.le_of_ble_eq_true rfl, Nat.le_of_ble_eq_true rfl⟩ (Nat.le_of_ble_eq_true rfl) ⟨Nat.le_of_ble_eq_true rfl, Nat.le_of_ble_eq_true rfl⟩ dX7_readPlainOne_158 rfl (st := []) (fun x_506735 I_506736 J_506737 h_506738 => ?_)
      obtain ⟨hUI_506736, hFI_506736, hGJ_506737, rx_506735⟩ := h_506738
      have hF_506739 := fq_tr hF_506730 hFI_506736 (by decide)
      have hG_506740 := fq_tr hG_506731 hGJ_506737 (by decide)
      refine g_if_eq C (tgt := 168) dX7_readPlainOne_161 (by decide) (fun h_506741 => ?_) (fun h_506741 => ?_)
      · skip
        have r_506742 := (⟨(rx_506735).1, (eq_rg (h_506741) rc_0).2⟩ : Rg 0 0 x_506735)
        refine g_iconst C (v := 0) dX7_readPlainOne_168 (by decide) ?_
        exact g_zret (ty := .boolean) (r := 0) B K rfl (rfl) ⟨hUI_506736, hF_506739, hG_506740, rg_w rc_0 (by decide) (by decide)⟩ dX7_readPlainOne_169
      · skip
        have n_506743 : ¬ x_506735 = 0 := h_506741
        have r_506744 := ne_lo (lo := 1) n_506743 rx_506735 rc_0 rfl (by decide)
        refine g_iconst C (v := 1) dX7_readPlainOne_164 (by decide) ?_
        refine g_goto C (tgt := 169) dX7_readPlainOne_165 (by decide) ?_
        exact g_zret (ty := .boolean) (r := 1) B K rfl (rfl) ⟨hUI_506736, hF_506739, hG_506740, rg_w rc_1 (by decide) (by decide)⟩ dX7_readPlainOne_169
  refine g_iload_n C 3 dX7_readPlainOne_0 rfl rfl ?_
  refine g_iconst C (v := 5) dX7_readPlainOne_1 (by decide) ?_
  refine g_icmp_ne C (tgt := 42) dX7_readPlainOne_2 (by decide) (fun h_506745 => ?_) (fun h_506745 => ?_)
  · skip
    have n_506746 : ¬ a2 = 5 := h_506745
    refine g_iload_n C 3 dX7_readPlainOne_42 rfl rfl ?_
    refine g_bipush C (v := 23) dX7_readPlainOne_43 (by decide) ?_
    refine g_icmp_ne C (tgt := 85) dX7_readPlainOne_45 (by decide) (fun h_506747 => ?_) (fun h_506747 => ?_)
    · skip
      have n_506748 : ¬ a2 = 23 := h_506747
      refine g_iload_n C 3 dX7_readPlainOne_85 rfl rfl ?_
      refine g_bipush C (v := 23) dX7_readPlainOne_86 (by decide) ?_
      refine g_icmp_ge C (tgt := 99) dX7_readPlainOne_88 (by decide) (fun h_506749 => ?_) (fun h_506749 => ?_)
      · skip
        have r_506750 := le_r (h_506749) rc_23 (rg_all a2)
        have r_506751 := ne_lo (lo := 24) n_506748 r_506750 rc_23 rfl (by decide)
        refine g_aload_n C 1 dX7_readPlainOne_99 rfl rfl ?_
        obtain ⟨x_506752, hx_506752, rx_506752⟩ := ex_get (I := I) (a := a0) (j := 8) (lo := (-2147483648)) (hi := 2147483647) hU.1 hLa0 (ro_o hka0 (by decide)) rfl
        refine g_getI C K hLa0 hka0 f_7_57 (v := x_506752) hx_506752 dX7_readPlainOne_100 ?_
        refine g_istore C dX7_readPlainOne_103 (by decide) (lo2 := [(4, .int x_506752), (0, .ref x), (1, .ref a0), (2, .ref a1), (3, .int a2)]) rfl ?_
        refine g_iload C 0 dX7_readPlainOne_105 rfl ?_
        refine g_bipush C (v := 60) dX7_readPlainOne_107 (by decide) ?_
        refine g_icmp_eq C (tgt := 132) dX7_readPlainOne_109 (by decide) (fun h_506753 => ?_) (fun h_506753 => ?_)
        · skip
          have r_506754 := (⟨(eq_rg (h_506753) rc_60).1, (eq_rg (h_506753) rc_60).2⟩ : Rg 60 60 x_506752)
          refine g_lo (is := [1, 2, 3, 4, 0]) (lo2 := [(0, .ref x), (1, .ref a0), (2, .ref a1), (3, .int a2), (4, .int x_506752)]) rfl ?_
          exact j_132 I J hU hF hG a2 (r_506751) (n_506746) (n_506748) x_506752 (rg_w r_506754 (by decide) (by decide)) hx_506752
        · skip
          have n_506755 : ¬ x_506752 = 60 := h_506753
          refine g_iload C 0 dX7_readPlainOne_112 rfl ?_
          refine g_bipush C (v := 61) dX7_readPlainOne_114 (by decide) ?_
          refine g_icmp_eq C (tgt := 132) dX7_readPlainOne_116 (by decide) (fun h_506756 => ?_) (fun h_506756 => ?_)
          · skip
            have r_506757 := (⟨(eq_rg (h_506756) rc_61).1, (eq_rg (h_506756) rc_61).2⟩ : Rg 61 61 x_506752)
            refine g_lo (is := [1, 2, 3, 4, 0]) (lo2 := [(0, .ref x), (1, .ref a0), (2, .ref a1), (3, .int a2), (4, .int x_506752)]) rfl ?_
            exact j_132 I J hU hF hG a2 (r_506751) (n_506746) (n_506748) x_506752 (rg_w r_506757 (by decide) (by decide)) hx_506752
          · skip
            have n_506758 : ¬ x_506752 = 61 := h_506756
            refine g_iload C 0 dX7_readPlainOne_119 rfl ?_
            refine g_bipush C (v := 62) dX7_readPlainOne_121 (by decide) ?_
            refine g_icmp_eq C (tgt := 132) dX7_readPlainOne_123 (by decide) (fun h_506759 => ?_) (fun h_506759 => ?_)
            · skip
              have r_506760 := (⟨(eq_rg (h_506759) rc_62).1, (eq_rg (h_506759) rc_62).2⟩ : Rg 62 62 x_506752)
              refine g_lo (is := [1, 2, 3, 4, 0]) (lo2 := [(0, .ref x), (1, .ref a0), (2, .ref a1), (3, .int a2), (4, .int x_506752)]) rfl ?_
              exact j_132 I J hU hF hG a2 (r_506751) (n_506746) (n_506748) x_506752 (rg_w r_506760 (by decide) (by decide)) hx_506752
            · skip
              have n_506761 : ¬ x_506752 = 62 := h_506759
              refine g_aload_n C 2 dX7_readPlainOne_126 rfl rfl ?_
              refine g_iconst C (v := 1) dX7_readPlainOne_127 (by decide) ?_
              refine g_callVI C K (c_X10_fail W9 hLa0 hka0 1 (rg_w rc_1 (by decide) (by decide)) hU) hLa0 hka0 (by decide) rfl v_7_73 rfl ⟨rfl, rfl⟩ ⟨Nat.le_of_ble_eq_true rfl, Nat.le_of_ble_eq_true rfl⟩ (Nat.le_of_ble_eq_true rfl) ⟨Nat.le_of_ble_eq_true rfl, Nat.le_of_ble_eq_true rfl⟩ dX7_readPlainOne_128 rfl (st := []) (fun x_506762 I_506763 J_506764 h_506765 => ?_)
              obtain ⟨hUI_506763, hFI_506763, hGJ_506764, rx_506762⟩ := h_506765
              have hF_506766 := fq_tr hF hFI_506763 (by decide)
              have hG_506767 := fq_tr hG hGJ_506764 (by decide)
              exact g_zret (ty := .boolean) (r := x_506762) B K rfl (nar_z (rg_w rx_506762 (by decide) (by decide))) ⟨hUI_506763, hF_506766, hG_506767, rg_w rx_506762 (by decide) (by decide)⟩ dX7_readPlainOne_131
      · skip
        have r_506768 := lt_l (hi := 22) (nle h_506749) (rg_all a2) rc_23 (by decide)
        refine g_aload_n C 0 dX7_readPlainOne_91 rfl rfl ?_
        refine g_iload_n C 3 dX7_readPlainOne_92 rfl rfl ?_
        refine g_iconst C (v := 0) dX7_readPlainOne_93 (by decide) ?_
        refine g_iconst C (v := 0) dX7_readPlainOne_94 (by decide) ?_
        refine g_callVI C K (c_X7_addStep W9 hLx hkx a2 0 0 (rg_w rc_0 (by decide) (by decide)) hU  (fun q => absurd q n_506748)) hLx hkx (by decide) rfl v_7_63 rfl ⟨rfl, rfl⟩ ⟨Nat.le_of_ble_eq_true rfl, Nat.le_of_ble_eq_true rfl⟩ (Nat.le_of_ble_eq_true rfl) ⟨Nat.le_of_ble_eq_true rfl, Nat.le_of_ble_eq_true rfl⟩ dX7_readPlainOne_95 rfl (st := []) (fun x_506769 I_506770 J_506771 h_506772 => ?_)
        obtain ⟨hUI_506770, hFI_506770, hGJ_506771, rx_506769⟩ := h_506772
        have hF_506773 := fq_tr hF hFI_506770 (by decide)
        have hG_506774 := fq_tr hG hGJ_506771 (by decide)
        exact g_zret (ty := .boolean) (r := x_506769) B K rfl (nar_z (rx_506769)) ⟨hUI_506770, hF_506773, hG_506774, rx_506769⟩ dX7_readPlainOne_98
    · skip
      have r_506775 := (⟨(eq_rg (h_506747) rc_23).1, (eq_rg (h_506747) rc_23).2⟩ : Rg 23 23 a2)
      refine g_aload_n C 1 dX7_readPlainOne_48 rfl rfl ?_
      refine g_aload_n C 2 dX7_readPlainOne_49 rfl rfl ?_
      refine g_aload_n C 1 dX7_readPlainOne_50 rfl rfl ?_
      obtain ⟨y_506776, hy_506776⟩ : ∃ z, J a0 10 = z := ⟨_, rfl⟩
      refine g_getJ C K hLa0 hka0 f_7_79 (v := y_506776) hy_506776 dX7_readPlainOne_51 ?_
      refine g_callVI C K (c_X8_dishNamed W9 hLa1 hka1 y_506776  hU) hLa1 hka1 (by decide) rfl v_7_93 rfl ⟨rfl, rfl⟩ ⟨Nat.le_of_ble_eq_true rfl, Nat.le_of_ble_eq_true rfl⟩ (Nat.le_of_ble_eq_true rfl) ⟨Nat.le_of_ble_eq_true rfl, Nat.le_of_ble_eq_true rfl⟩ dX7_readPlainOne_54 rfl (st := [.ref a0]) (fun x_506777 I_506778 J_506779 h_506780 => ?_)
      obtain ⟨rfl, rfl, rx_506777⟩ := h_506780
      refine g_callVI C K (c_X10_takeName W9 hLa0 hka0 x_506777 (rg_w rx_506777 (by decide) (by decide)) hU) hLa0 hka0 (by decide) rfl v_7_89 rfl ⟨rfl, rfl⟩ ⟨Nat.le_of_ble_eq_true rfl, Nat.le_of_ble_eq_true rfl⟩ (Nat.le_of_ble_eq_true rfl) ⟨Nat.le_of_ble_eq_true rfl, Nat.le_of_ble_eq_true rfl⟩ dX7_readPlainOne_57 rfl (st := []) (fun x_506781 I_506782 J_506783 h_506784 => ?_)
      obtain ⟨hUI_506782, hFI_506782, hGJ_506783, rx_506781, ex_506781⟩ := h_506784
      have hF_506785 := fq_tr hF hFI_506782 (by decide)
      have hG_506786 := fq_tr hG hGJ_506783 (by decide)
      have r_506787 := rg_or ex_506781 (rx_506777) (by decide) (by decide)
      refine g_istore C dX7_readPlainOne_60 (by decide) (lo2 := [(4, .int x_506781), (0, .ref x), (1, .ref a0), (2, .ref a1), (3, .int a2)]) rfl ?_
      refine g_iload C 0 dX7_readPlainOne_62 rfl ?_
      refine g_iconst C (v := (-1)) dX7_readPlainOne_64 (by decide) ?_
      refine g_icmp_eq C (tgt := 83) dX7_readPlainOne_65 (by decide) (fun h_506788 => ?_) (fun h_506788 => ?_)
      · skip
        have r_506789 := (⟨(r_506787).1, (eq_rg (h_506788) rc_m1).2⟩ : Rg (-1) (-1) x_506781)
        refine g_iconst C (v := 0) dX7_readPlainOne_83 (by decide) ?_
        exact g_zret (ty := .boolean) (r := 0) B K rfl (rfl) ⟨hUI_506782, hF_506785, hG_506786, rg_w rc_0 (by decide) (by decide)⟩ dX7_readPlainOne_84
      · skip
        have n_506790 : ¬ x_506781 = (-1) := h_506788
        have r_506791 := ne_lo (lo := 0) n_506790 r_506787 rc_m1 rfl (by decide)
        have r_506792 := eq_rg (Eq.symm (Or.resolve_left ex_506781 (rg_nek r_506791 rc_m1 (by decide)))) r_506791
        refine g_aload_n C 1 dX7_readPlainOne_68 rfl rfl ?_
        refine g_iload_n C 4 dX7_readPlainOne_69 rfl rfl ?_
        refine g_iconst C (v := 0) dX7_readPlainOne_70 (by decide) ?_
        refine g_iload C 0 dX7_readPlainOne_71 rfl ?_
        refine g_callVI C K (c_X7_addStep W9 hLx hkx a2 0 x_506781 (rg_w rc_0 (by decide) (by decide)) hUI_506782  (fun _ => r_506791)) hLx hkx (by decide) rfl v_7_63 rfl ⟨rfl, rfl⟩ ⟨Nat.le_of_ble_eq_true rfl, Nat.le_of_ble_eq_true rfl⟩ (Nat.le_of_ble_eq_true rfl) ⟨Nat.le_of_ble_eq_true rfl, Nat.le_of_ble_eq_true rfl⟩ dX7_readPlainOne_73 rfl (st := []) (fun x_506793 I_506794 J_506795 h_506796 => ?_)
        obtain ⟨hUI_506794, hFI_506794, hGJ_506795, rx_506793⟩ := h_506796
        have hF_506797 := fq_tr hF_506785 hFI_506794 (by decide)
        have hG_506798 := fq_tr hG_506786 hGJ_506795 (by decide)
        refine g_if_eq C (tgt := 83) dX7_readPlainOne_76 (by decide) (fun h_506799 => ?_) (fun h_506799 => ?_)
        · skip
          have r_506800 := (⟨(rx_506793).1, (eq_rg (h_506799) rc_0).2⟩ : Rg 0 0 x_506793)
          refine g_iconst C (v := 0) dX7_readPlainOne_83 (by decide) ?_
          exact g_zret (ty := .boolean) (r := 0) B K rfl (rfl) ⟨hUI_506794, hF_506797, hG_506798, rg_w rc_0 (by decide) (by decide)⟩ dX7_readPlainOne_84
        · skip
          have n_506801 : ¬ x_506793 = 0 := h_506799
          have r_506802 := ne_lo (lo := 1) n_506801 rx_506793 rc_0 rfl (by decide)
          refine g_iconst C (v := 1) dX7_readPlainOne_79 (by decide) ?_
          refine g_goto C (tgt := 84) dX7_readPlainOne_80 (by decide) ?_
          exact g_zret (ty := .boolean) (r := 1) B K rfl (rfl) ⟨hUI_506794, hF_506797, hG_506798, rg_w rc_1 (by decide) (by decide)⟩ dX7_readPlainOne_84
  · skip
    have r_506803 := (⟨(eq_rg (h_506745) rc_5).1, (eq_rg (h_506745) rc_5).2⟩ : Rg 5 5 a2)
    refine g_aload_n C 1 dX7_readPlainOne_5 rfl rfl ?_
    refine g_aload_n C 2 dX7_readPlainOne_6 rfl rfl ?_
    refine g_aload_n C 1 dX7_readPlainOne_7 rfl rfl ?_
    obtain ⟨y_506804, hy_506804⟩ : ∃ z, J a0 10 = z := ⟨_, rfl⟩
    refine g_getJ C K hLa0 hka0 f_7_79 (v := y_506804) hy_506804 dX7_readPlainOne_8 ?_
    refine g_callVI C K (c_X8_personNamed W9 hLa1 hka1 y_506804  hU) hLa1 hka1 (by decide) rfl v_7_83 rfl ⟨rfl, rfl⟩ ⟨Nat.le_of_ble_eq_true rfl, Nat.le_of_ble_eq_true rfl⟩ (Nat.le_of_ble_eq_true rfl) ⟨Nat.le_of_ble_eq_true rfl, Nat.le_of_ble_eq_true rfl⟩ dX7_readPlainOne_11 rfl (st := [.ref a0]) (fun x_506805 I_506806 J_506807 h_506808 => ?_)
    obtain ⟨rfl, rfl, rx_506805⟩ := h_506808
    refine g_callVI C K (c_X10_takeName W9 hLa0 hka0 x_506805 (rx_506805) hU) hLa0 hka0 (by decide) rfl v_7_89 rfl ⟨rfl, rfl⟩ ⟨Nat.le_of_ble_eq_true rfl, Nat.le_of_ble_eq_true rfl⟩ (Nat.le_of_ble_eq_true rfl) ⟨Nat.le_of_ble_eq_true rfl, Nat.le_of_ble_eq_true rfl⟩ dX7_readPlainOne_14 rfl (st := []) (fun x_506809 I_506810 J_506811 h_506812 => ?_)
    obtain ⟨hUI_506810, hFI_506810, hGJ_506811, rx_506809, ex_506809⟩ := h_506812
    have hF_506813 := fq_tr hF hFI_506810 (by decide)
    have hG_506814 := fq_tr hG hGJ_506811 (by decide)
    have r_506815 := rg_or ex_506809 (rx_506805) (by decide) (by decide)
    refine g_istore C dX7_readPlainOne_17 (by decide) (lo2 := [(4, .int x_506809), (0, .ref x), (1, .ref a0), (2, .ref a1), (3, .int a2)]) rfl ?_
    refine g_iload C 0 dX7_readPlainOne_19 rfl ?_
    refine g_iconst C (v := (-1)) dX7_readPlainOne_21 (by decide) ?_
    refine g_icmp_eq C (tgt := 40) dX7_readPlainOne_22 (by decide) (fun h_506816 => ?_) (fun h_506816 => ?_)
    · skip
      have r_506817 := (⟨(r_506815).1, (eq_rg (h_506816) rc_m1).2⟩ : Rg (-1) (-1) x_506809)
      refine g_iconst C (v := 0) dX7_readPlainOne_40 (by decide) ?_
      exact g_zret (ty := .boolean) (r := 0) B K rfl (rfl) ⟨hUI_506810, hF_506813, hG_506814, rg_w rc_0 (by decide) (by decide)⟩ dX7_readPlainOne_41
    · skip
      have n_506818 : ¬ x_506809 = (-1) := h_506816
      have r_506819 := ne_lo (lo := 0) n_506818 r_506815 rc_m1 rfl (by decide)
      have r_506820 := eq_rg (Eq.symm (Or.resolve_left ex_506809 (rg_nek r_506819 rc_m1 (by decide)))) r_506819
      refine g_aload_n C 1 dX7_readPlainOne_25 rfl rfl ?_
      refine g_iload_n C 4 dX7_readPlainOne_26 rfl rfl ?_
      refine g_iconst C (v := 0) dX7_readPlainOne_27 (by decide) ?_
      refine g_iload C 0 dX7_readPlainOne_28 rfl ?_
      refine g_callVI C K (c_X7_addStep W9 hLx hkx a2 0 x_506809 (rg_w rc_0 (by decide) (by decide)) hUI_506810  (fun q => absurd q (rg_nek r_506803 rc_23 (by decide)))) hLx hkx (by decide) rfl v_7_63 rfl ⟨rfl, rfl⟩ ⟨Nat.le_of_ble_eq_true rfl, Nat.le_of_ble_eq_true rfl⟩ (Nat.le_of_ble_eq_true rfl) ⟨Nat.le_of_ble_eq_true rfl, Nat.le_of_ble_eq_true rfl⟩ dX7_readPlainOne_30 rfl (st := []) (fun x_506821 I_506822 J_506823 h_506824 => ?_)
      obtain ⟨hUI_506822, hFI_506822, hGJ_506823, rx_506821⟩ := h_506824
      have hF_506825 := fq_tr hF_506813 hFI_506822 (by decide)
      have hG_506826 := fq_tr hG_506814 hGJ_506823 (by decide)
      refine g_if_eq C (tgt := 40) dX7_readPlainOne_33 (by decide) (fun h_506827 => ?_) (fun h_506827 => ?_)
      · skip
        have r_506828 := (⟨(rx_506821).1, (eq_rg (h_506827) rc_0).2⟩ : Rg 0 0 x_506821)
        refine g_iconst C (v := 0) dX7_readPlainOne_40 (by decide) ?_
        exact g_zret (ty := .boolean) (r := 0) B K rfl (rfl) ⟨hUI_506822, hF_506825, hG_506826, rg_w rc_0 (by decide) (by decide)⟩ dX7_readPlainOne_41
      · skip
        have n_506829 : ¬ x_506821 = 0 := h_506827
        have r_506830 := ne_lo (lo := 1) n_506829 rx_506821 rc_0 rfl (by decide)
        refine g_iconst C (v := 1) dX7_readPlainOne_36 (by decide) ?_
        refine g_goto C (tgt := 41) dX7_readPlainOne_37 (by decide) ?_
        exact g_zret (ty := .boolean) (r := 1) B K rfl (rfl) ⟨hUI_506822, hF_506825, hG_506826, rg_w rc_1 (by decide) (by decide)⟩ dX7_readPlainOne_41
set_option maxRecDepth 100000 in
set_option maxHeartbeats 8000000 in
theorem c_X7_readOne_8 {l : Launch} {D : va_G} {cy : Nat → ClassId} {L : List Nat} {κ ln : Nat → Nat} {R : Nat → Nat → Option Nat} {I : Nat → Nat → Int32} {J : Nat → Nat → Int64} {ow : Nat → Nat × Nat} (W9 : ∀ a ∈ L, Shp L κ ln R ow a) {x : Nat} (hLx : x ∈ L) (hkx : κ x = 7) {a0 : Nat} (hLa0 : a0 ∈ L) (hka0 : κ a0 = 10) {a1 : Nat} (hLa1 : a1 ∈ L) (hka1 : κ a1 = 8) (a2 : Int32) (ra2 : Rg 8 8 a2) (hU : Iv L κ R ow I) : CtI l yX7_readOne cX7_readOne 5 (some .boolean) { frames := 4, cells := 0, slots := 0, locals := 95 } D cy L κ ln R I J [.ref x, .ref a0, .ref a1, .int a2] (fun r I2 J2 => Iv L κ R ow I2 ∧ Fq L κ ow [704, 705, 1007, 1008, 1009, 1011, 1012, 52000, 52100, 52200] I I2 ∧ Fq L κ ow [1010] J J2 ∧ Rg 0 1 r) := by
  refine CtI.of (by decide +kernel) (Nat.le_of_ble_eq_true rfl) ?_
  intro p e s m below meth c B K
  have C := B.1
  have hF : Fq L κ ow [704, 705, 1007, 1008, 1009, 1011, 1012, 52000, 52100, 52200] I I := fq_rf
  have hG : Fq L κ ow [1010] J J := fq_rf
  refine g_lo (is := [0, 1, 2, 3]) (lo2 := [(0, .ref x), (1, .ref a0), (2, .ref a1), (3, .int a2)]) rfl ?_
  have j_35 : ∀ (I_506961 : Nat → Nat → Int32) (J_506962 : Nat → Nat → Int64) (hU_506963 : Iv L κ R ow I_506961) (hF_506964 : Fq L κ ow [704, 705, 1007, 1008, 1009, 1011, 1012, 52000, 52100, 52200] I I_506961) (hG_506965 : Fq L κ ow [1010] J J_506962) (v_506966 : Int32) (rv_506966 : Rg 8 8 v_506966) (v_506967 : Int32) (v_506968 : Int32) (rv_506968 : Rg 20 2147483647 v_506968) (q_506969 : I_506961 a0 8 = v_506967) (q_506970 : I_506961 x 5 = v_506968), WG p l e { frames := 4, cells := 0, slots := 0, locals := 95 } s m ([.ref x, .ref a0, .ref a1, .int a2] : List Value).toArray below meth c 5 0 0 (MQ below (Qi_ D cy L κ ln R (fun r I2 J2 => Iv L κ R ow I2 ∧ Fq L κ ow [704, 705, 1007, 1008, 1009, 1011, 1012, 52000, 52100, 52200] I I2 ∧ Fq L κ ow [1010] J J2 ∧ Rg 0 1 r)) ([.ref x, .ref a0, .ref a1, .int a2] : List Value).toArray s 0 0 (Al_ L)) D cy (Al_ L) s.heap L κ ln R I_506961 J_506962 35 [(0, .ref x), (1, .ref a0), (2, .ref a1), (3, .int v_506966), (4, .int v_506967)] [] := by
    intro I_506961 J_506962 hU_506963 hF_506964 hG_506965 v_506966 rv_506966 v_506967 v_506968 rv_506968 q_506969 q_506970
    refine g_aload_n C 1 dX7_readOne_35 rfl rfl ?_
    refine g_iconst C (v := 4) dX7_readOne_36 (by decide) ?_
    refine g_callVI C K (c_X10_fail W9 hLa0 hka0 4 (rg_w rc_4 (by decide) (by decide)) hU_506963) hLa0 hka0 (by decide) rfl v_7_73 rfl ⟨rfl, rfl⟩ ⟨Nat.le_of_ble_eq_true rfl, Nat.le_of_ble_eq_true rfl⟩ (Nat.le_of_ble_eq_true rfl) ⟨Nat.le_of_ble_eq_true rfl, Nat.le_of_ble_eq_true rfl⟩ dX7_readOne_37 rfl (st := []) (fun x_506971 I_506972 J_506973 h_506974 => ?_)
    obtain ⟨hUI_506972, hFI_506972, hGJ_506973, rx_506971⟩ := h_506974
    have hF_506975 := fq_tr hF_506964 hFI_506972 (by decide)
    have hG_506976 := fq_tr hG_506965 hGJ_506973 (by decide)
    exact g_zret (ty := .boolean) (r := x_506971) B K rfl (nar_z (rg_w rx_506971 (by decide) (by decide))) ⟨hUI_506972, hF_506975, hG_506976, rg_w rx_506971 (by decide) (by decide)⟩ dX7_readOne_40
  refine g_aload_n C 1 dX7_readOne_0 rfl rfl ?_
  obtain ⟨x_506977, hx_506977, rx_506977⟩ := ex_get (I := I) (a := a0) (j := 8) (lo := (-2147483648)) (hi := 2147483647) hU.1 hLa0 (ro_o hka0 (by decide)) rfl
  refine g_getI C K hLa0 hka0 f_7_57 (v := x_506977) hx_506977 dX7_readOne_1 ?_
  refine g_istore C dX7_readOne_4 (by decide) (lo2 := [(4, .int x_506977), (0, .ref x), (1, .ref a0), (2, .ref a1), (3, .int a2)]) rfl ?_
  refine g_iload C 0 dX7_readOne_6 rfl ?_
  refine g_callSI C K (c_X7_beginsOne W9 x_506977  hU) s_7_70 rfl ⟨rfl, rfl⟩ ⟨Nat.le_of_ble_eq_true rfl, Nat.le_of_ble_eq_true rfl⟩ (Nat.le_of_ble_eq_true rfl) ⟨Nat.le_of_ble_eq_true rfl, Nat.le_of_ble_eq_true rfl⟩ dX7_readOne_8 rfl (st := []) (fun x_506978 I_506979 J_506980 h_506981 => ?_)
  obtain ⟨rfl, rfl, rx_506978⟩ := h_506981
  refine g_if_ne C (tgt := 20) dX7_readOne_11 (by decide) (fun h_506982 => ?_) (fun h_506982 => ?_)
  · skip
    have n_506983 : ¬ x_506978 = 0 := h_506982
    have r_506984 := ne_lo (lo := 1) n_506983 rx_506978 rc_0 rfl (by decide)
    refine g_aload_n C 1 dX7_readOne_20 rfl rfl ?_
    obtain ⟨x_506985, hx_506985, rx_506985⟩ := ex_get (I := I) (a := x) (j := 5) (lo := (-2147483648)) (hi := 2147483647) hU.1 hLx (ro_o hkx (by decide)) rfl
    refine g_getI C K hLx hkx f_7_28 (v := x_506985) hx_506985 dX7_readOne_21 ?_
    refine g_bipush C (v := 20) dX7_readOne_24 (by decide) ?_
    refine g_icmp_ge C (tgt := 35) dX7_readOne_26 (by decide) (fun h_506986 => ?_) (fun h_506986 => ?_)
    · skip
      have r_506987 := le_r (h_506986) rc_20 rx_506985
      refine g_lo (is := [1, 2, 3, 4, 0]) (lo2 := [(0, .ref x), (1, .ref a0), (2, .ref a1), (3, .int a2), (4, .int x_506977)]) rfl ?_
      exact j_35 I J hU hF hG a2 (ra2) x_506977 x_506985 (r_506987) hx_506977 hx_506985
    · skip
      have r_506988 := lt_l (hi := 19) (nle h_506986) rx_506985 rc_20 (by decide)
      refine g_iload_n C 4 dX7_readOne_29 rfl rfl ?_
      refine g_bipush C (v := 8) dX7_readOne_30 (by decide) ?_
      refine g_icmp_le C (tgt := 41) dX7_readOne_32 (by decide) (fun h_506989 => ?_) (fun h_506989 => ?_)
      · skip
        refine g_aload_n C 1 dX7_readOne_41 rfl rfl ?_
        refine g_dup C dX7_readOne_42 rfl ?_
        refine g_getI C K hLx hkx f_7_28 (v := x_506985) hx_506985 dX7_readOne_43 ?_
        refine g_iconst C (v := 1) dX7_readOne_46 (by decide) ?_
        obtain ⟨x_506990, hx_506990, rx_506990, tx_506990⟩ := ex_add (-2147483647) 20 r_506988 rc_1 (by decide) (by decide) (by decide) (by decide)
        refine g_iadd C (v := x_506990) dX7_readOne_47 hx_506990 ?_
        refine h_putI C K hLx hkx f_7_28 p_7_5 dX7_readOne_48 (fun I_506991 hI_506991 => ?_)
        have hU_506992 := iv_put W9 hU hI_506991 (ro_o hkx (by decide)) (lo := (-2147483648)) (hi := 2147483647) (rfl) (rg_all _) rfl
        have hF_506993 := fq_puto hF hI_506991 hkx (by decide) (by decide)
        refine g_aload_n C 2 dX7_readOne_51 rfl rfl ?_
        refine g_callVV C K (c_X10_advance W9 hLa0 hka0   hU_506992) hLa0 hka0 (by decide) rfl v_7_60 rfl ⟨rfl, rfl⟩ ⟨Nat.le_of_ble_eq_true rfl, Nat.le_of_ble_eq_true rfl⟩ (Nat.le_of_ble_eq_true rfl) ⟨Nat.le_of_ble_eq_true rfl, Nat.le_of_ble_eq_true rfl⟩ dX7_readOne_52 rfl (st := []) (fun I_506995 J_506996 h_506997 => ?_)
        obtain ⟨hUI_506995, hFI_506995, hGJ_506996⟩ := h_506997
        have hF_506998 := fq_tr hF_506993 hFI_506995 (by decide)
        have hG_506999 := fq_tr hG hGJ_506996 (by decide)
        refine g_iload C 0 dX7_readOne_55 rfl ?_
        refine g_bipush C (v := 40) dX7_readOne_57 (by decide) ?_
        refine g_icmp_ne C (tgt := 89) dX7_readOne_59 (by decide) (fun h_507000 => ?_) (fun h_507000 => ?_)
        · skip
          have n_507001 : ¬ x_506977 = 40 := h_507000
          refine g_iload C 0 dX7_readOne_89 rfl ?_
          refine g_bipush C (v := 19) dX7_readOne_91 (by decide) ?_
          refine g_icmp_ne C (tgt := 125) dX7_readOne_93 (by decide) (fun h_507002 => ?_) (fun h_507002 => ?_)
          · skip
            have n_507003 : ¬ x_506977 = 19 := h_507002
            refine g_aload_n C 1 dX7_readOne_125 rfl rfl ?_
            refine g_aload_n C 2 dX7_readOne_126 rfl rfl ?_
            refine g_aload_n C 3 dX7_readOne_127 rfl rfl ?_
            refine g_iload C 0 dX7_readOne_128 rfl ?_
            refine g_callVI C K (c_X7_readPlainOne W9 hLx hkx hLa0 hka0 hLa1 hka1 x_506977  hUI_506995) hLx hkx (by decide) rfl v_7_76 rfl ⟨rfl, rfl⟩ ⟨Nat.le_of_ble_eq_true rfl, Nat.le_of_ble_eq_true rfl⟩ (Nat.le_of_ble_eq_true rfl) ⟨Nat.le_of_ble_eq_true rfl, Nat.le_of_ble_eq_true rfl⟩ dX7_readOne_130 rfl (st := []) (fun x_507004 I_507005 J_507006 h_507007 => ?_)
            obtain ⟨hUI_507005, hFI_507005, hGJ_507006, rx_507004⟩ := h_507007
            have hF_507008 := fq_tr hF_506998 hFI_507005 (by decide)
            have hG_507009 := fq_tr hG_506999 hGJ_507006 (by decide)
            exact g_zret (ty := .boolean) (r := x_507004) B K rfl (nar_z (rx_507004)) ⟨hUI_507005, hF_507008, hG_507009, rx_507004⟩ dX7_readOne_133
          · skip
            have r_507010 := (⟨(eq_rg (h_507002) rc_19).1, (eq_rg (h_507002) rc_19).2⟩ : Rg 19 19 x_506977)
            refine g_aload_n C 1 dX7_readOne_96 rfl rfl ?_
            refine g_aload_n C 2 dX7_readOne_97 rfl rfl ?_
            refine g_aload_n C 3 dX7_readOne_98 rfl rfl ?_
            refine g_iload_n C 4 dX7_readOne_99 rfl rfl ?_
            refine g_iconst C (v := 1) dX7_readOne_100 (by decide) ?_
            obtain ⟨x_507011, hx_507011, rx_507011, tx_507011⟩ := ex_add 9 9 ra2 rc_1 (by decide) (by decide) (by decide) (by decide)
            refine g_iadd C (v := x_507011) dX7_readOne_101 hx_507011 ?_
            refine g_callVI C K (c_X7_readOne_9 W9 hLx hkx hLa0 hka0 hLa1 hka1 x_507011 (rx_507011) hUI_506995) hLx hkx (by decide) rfl v_7_67 rfl ⟨rfl, rfl⟩ ⟨Nat.le_of_ble_eq_true rfl, Nat.le_of_ble_eq_true rfl⟩ (Nat.le_of_ble_eq_true rfl) ⟨Nat.le_of_ble_eq_true rfl, Nat.le_of_ble_eq_true rfl⟩ dX7_readOne_102 rfl (st := []) (fun x_507012 I_507013 J_507014 h_507015 => ?_)
            obtain ⟨hUI_507013, hFI_507013, hGJ_507014, rx_507012⟩ := h_507015
            have hF_507016 := fq_tr hF_506998 hFI_507013 (by decide)
            have hG_507017 := fq_tr hG_506999 hGJ_507014 (by decide)
            refine g_if_eq C (tgt := 123) dX7_readOne_105 (by decide) (fun h_507018 => ?_) (fun h_507018 => ?_)
            · skip
              refine g_iconst C (v := 0) dX7_readOne_123 (by decide) ?_
              exact g_zret (ty := .boolean) (r := 0) B K rfl (rfl) ⟨hUI_507013, hF_507016, hG_507017, rg_w rc_0 (by decide) (by decide)⟩ dX7_readOne_124
            · skip
              exact ne_no (h_507018) rx_507012 rc_0
        · skip
          have r_507019 := (⟨(eq_rg (h_507000) rc_40).1, (eq_rg (h_507000) rc_40).2⟩ : Rg 40 40 x_506977)
          refine g_aload_n C 1 dX7_readOne_62 rfl rfl ?_
          refine g_aload_n C 2 dX7_readOne_63 rfl rfl ?_
          refine g_aload_n C 3 dX7_readOne_64 rfl rfl ?_
          refine g_iload_n C 4 dX7_readOne_65 rfl rfl ?_
          refine g_iconst C (v := 1) dX7_readOne_66 (by decide) ?_
          obtain ⟨x_507020, hx_507020, rx_507020, tx_507020⟩ := ex_add 9 9 ra2 rc_1 (by decide) (by decide) (by decide) (by decide)
          refine g_iadd C (v := x_507020) dX7_readOne_67 hx_507020 ?_
          refine g_callVI C K (c_X7_readCond_9 W9 hLx hkx hLa0 hka0 hLa1 hka1 x_507020 (rx_507020) hUI_506995) hLx hkx (by decide) rfl v_7_46 rfl ⟨rfl, rfl⟩ ⟨Nat.le_of_ble_eq_true rfl, Nat.le_of_ble_eq_true rfl⟩ (Nat.le_of_ble_eq_true rfl) ⟨Nat.le_of_ble_eq_true rfl, Nat.le_of_ble_eq_true rfl⟩ dX7_readOne_68 rfl (st := []) (fun x_507021 I_507022 J_507023 h_507024 => ?_)
          obtain ⟨hUI_507022, hFI_507022, hGJ_507023, rx_507021⟩ := h_507024
          have hF_507025 := fq_tr hF_506998 hFI_507022 (by decide)
          have hG_507026 := fq_tr hG_506999 hGJ_507023 (by decide)
          refine g_if_eq C (tgt := 87) dX7_readOne_71 (by decide) (fun h_507027 => ?_) (fun h_507027 => ?_)
          · skip
            refine g_iconst C (v := 0) dX7_readOne_87 (by decide) ?_
            exact g_zret (ty := .boolean) (r := 0) B K rfl (rfl) ⟨hUI_507022, hF_507025, hG_507026, rg_w rc_0 (by decide) (by decide)⟩ dX7_readOne_88
          · skip
            exact ne_no (h_507027) rx_507021 rc_0
      · skip
        have r_507028 := lt_r (lo := 9) (nle h_506989) rc_8 ra2 (by decide)
        exact rg_no r_507028 (by decide)
  · skip
    have r_507029 := (⟨(rx_506978).1, (eq_rg (h_506982) rc_0).2⟩ : Rg 0 0 x_506978)
    refine g_aload_n C 2 dX7_readOne_14 rfl rfl ?_
    refine g_iconst C (v := 1) dX7_readOne_15 (by decide) ?_
    refine g_callVI C K (c_X10_fail W9 hLa0 hka0 1 (rg_w rc_1 (by decide) (by decide)) hU) hLa0 hka0 (by decide) rfl v_7_73 rfl ⟨rfl, rfl⟩ ⟨Nat.le_of_ble_eq_true rfl, Nat.le_of_ble_eq_true rfl⟩ (Nat.le_of_ble_eq_true rfl) ⟨Nat.le_of_ble_eq_true rfl, Nat.le_of_ble_eq_true rfl⟩ dX7_readOne_16 rfl (st := []) (fun x_507030 I_507031 J_507032 h_507033 => ?_)
    obtain ⟨hUI_507031, hFI_507031, hGJ_507032, rx_507030⟩ := h_507033
    have hF_507034 := fq_tr hF hFI_507031 (by decide)
    have hG_507035 := fq_tr hG hGJ_507032 (by decide)
    exact g_zret (ty := .boolean) (r := x_507030) B K rfl (nar_z (rg_w rx_507030 (by decide) (by decide))) ⟨hUI_507031, hF_507034, hG_507035, rg_w rx_507030 (by decide) (by decide)⟩ dX7_readOne_19
set_option maxRecDepth 100000 in
set_option maxHeartbeats 8000000 in
theorem c_X7_readAll_8 {l : Launch} {D : va_G} {cy : Nat → ClassId} {L : List Nat} {κ ln : Nat → Nat} {R : Nat → Nat → Option Nat} {I : Nat → Nat → Int32} {J : Nat → Nat → Int64} {ow : Nat → Nat × Nat} (W9 : ∀ a ∈ L, Shp L κ ln R ow a) {x : Nat} (hLx : x ∈ L) (hkx : κ x = 7) {a0 : Nat} (hLa0 : a0 ∈ L) (hka0 : κ a0 = 10) {a1 : Nat} (hLa1 : a1 ∈ L) (hka1 : κ a1 = 8) (a2 : Int32) (ra2 : Rg 8 8 a2) (hU : Iv L κ R ow I) : CtI l yX7_readAll cX7_readAll 6 (some .boolean) { frames := 5, cells := 0, slots := 0, locals := 119 } D cy L κ ln R I J [.ref x, .ref a0, .ref a1, .int a2] (fun r I2 J2 => Iv L κ R ow I2 ∧ Fq L κ ow [704, 705, 1007, 1008, 1009, 1011, 1012, 52000, 52100, 52200] I I2 ∧ Fq L κ ow [1010] J J2 ∧ Rg 0 1 r) := by
  refine CtI.of (by decide +kernel) (Nat.le_of_ble_eq_true rfl) ?_
  intro p e s m below meth c B K
  have C := B.1
  have hF : Fq L κ ow [704, 705, 1007, 1008, 1009, 1011, 1012, 52000, 52100, 52200] I I := fq_rf
  have hG : Fq L κ ow [1010] J J := fq_rf
  refine g_lo (is := [0, 1, 2, 3]) (lo2 := [(0, .ref x), (1, .ref a0), (2, .ref a1), (3, .int a2)]) rfl ?_
  have l_12 : ∀ (n_12 : Nat) (I_507679 : Nat → Nat → Int32) (J_507680 : Nat → Nat → Int64) (hU_507681 : Iv L κ R ow I_507679) (hF_507682 : Fq L κ ow [704, 705, 1007, 1008, 1009, 1011, 1012, 52000, 52100, 52200] I I_507679) (hG_507683 : Fq L κ ow [1010] J J_507680) (v_507684 : Int32) (rv_507684 : Rg 8 8 v_507684) (v_507685 : Int32) (rv_507685 : Rg 0 1 v_507685) (v_507686 : Int32) (rv_507686 : Rg 0 20 v_507686) (hm_507687 : 20 < (v_507686 : Int32).toInt + (n_12 : Int)), WG p l e { frames := 5, cells := 0, slots := 0, locals := 119 } s m ([.ref x, .ref a0, .ref a1, .int a2] : List Value).toArray below meth c 6 0 0 (MQ below (Qi_ D cy L κ ln R (fun r I2 J2 => Iv L κ R ow I2 ∧ Fq L κ ow [704, 705, 1007, 1008, 1009, 1011, 1012, 52000, 52100, 52200] I I2 ∧ Fq L κ ow [1010] J J2 ∧ Rg 0 1 r)) ([.ref x, .ref a0, .ref a1, .int a2] : List Value).toArray s 0 0 (Al_ L)) D cy (Al_ L) s.heap L κ ln R I_507679 J_507680 12 [(0, .ref x), (1, .ref a0), (2, .ref a1), (3, .int v_507684), (4, .int v_507685), (5, .int v_507686)] [] := by
    intro n_12
    induction n_12 with
    | zero =>
      intro I_507679 J_507680 hU_507681 hF_507682 hG_507683 v_507684 rv_507684 v_507685 rv_507685 v_507686 rv_507686 hm_507687
      exact ms_0 rv_507686 hm_507687
    | succ n_12 ih_12 =>
      intro I_507679 J_507680 hU_507681 hF_507682 hG_507683 v_507684 rv_507684 v_507685 rv_507685 v_507686 rv_507686 hm_507687
      have j_62 : ∀ (I_507688 : Nat → Nat → Int32) (J_507689 : Nat → Nat → Int64) (hU_507690 : Iv L κ R ow I_507688) (hF_507691 : Fq L κ ow [704, 705, 1007, 1008, 1009, 1011, 1012, 52000, 52100, 52200] I I_507688) (hG_507692 : Fq L κ ow [1010] J J_507689) (v_507693 : Int32) (rv_507693 : Rg 8 8 v_507693) (v_507694 : Int32) (rv_507694 : Rg 1 1 v_507694) (nv_507694_0 : ¬ v_507694 = 0) (v_507695 : Int32) (rv_507695 : Rg 0 19 v_507695) (hm_507696 : 20 < (v_507695 : Int32).toInt + ((n_12 + 1 : Nat) : Int)), WG p l e { frames := 5, cells := 0, slots := 0, locals := 119 } s m ([.ref x, .ref a0, .ref a1, .int a2] : List Value).toArray below meth c 6 0 0 (MQ below (Qi_ D cy L κ ln R (fun r I2 J2 => Iv L κ R ow I2 ∧ Fq L κ ow [704, 705, 1007, 1008, 1009, 1011, 1012, 52000, 52100, 52200] I I2 ∧ Fq L κ ow [1010] J J2 ∧ Rg 0 1 r)) ([.ref x, .ref a0, .ref a1, .int a2] : List Value).toArray s 0 0 (Al_ L)) D cy (Al_ L) s.heap L κ ln R I_507688 J_507689 62 [(0, .ref x), (1, .ref a0), (2, .ref a1), (3, .int v_507693), (4, .int v_507694), (5, .int v_507695)] [] := by
        intro I_507688 J_507689 hU_507690 hF_507691 hG_507692 v_507693 rv_507693 v_507694 rv_507694 nv_507694_0 v_507695 rv_507695 hm_507696
        refine g_iconst C (v := 0) dX7_readAll_62 (by decide) ?_
        refine g_istore C dX7_readAll_63 (by decide) (lo2 := [(4, .int 0), (0, .ref x), (1, .ref a0), (2, .ref a1), (3, .int v_507693), (5, .int v_507695)]) rfl ?_
        obtain ⟨x_507697, hx_507697, rx_507697, tx_507697⟩ := ex_add (y := 1) 1 20 rv_507695 rc_1 (by decide) (by decide) (by decide) (by decide)
        refine g_iinc C dX7_readAll_65 (k := 5) (v := x_507697) rfl hx_507697 (by decide) (lo2 := [(5, .int x_507697), (4, .int 0), (0, .ref x), (1, .ref a0), (2, .ref a1), (3, .int v_507693)]) rfl ?_
        refine g_goto C (tgt := 12) dX7_readAll_68 (by decide) ?_
        refine g_lo (is := [2, 3, 4, 5, 1, 0]) (lo2 := [(0, .ref x), (1, .ref a0), (2, .ref a1), (3, .int v_507693), (4, .int 0), (5, .int x_507697)]) rfl ?_
        exact ih_12 I_507688 J_507689 hU_507690 hF_507691 hG_507692 v_507693 (rv_507693) 0 (rg_w rc_0 (by decide) (by decide)) x_507697 (rg_w rx_507697 (by decide) (by decide)) (ms_1 hm_507696 (ti_k tx_507697 rc_1) (by decide))
      refine g_iload C 5 dX7_readAll_12 rfl ?_
      refine g_bipush C (v := 20) dX7_readAll_14 (by decide) ?_
      refine g_icmp_ge C (tgt := 71) dX7_readAll_16 (by decide) (fun h_507698 => ?_) (fun h_507698 => ?_)
      · skip
        have r_507699 := le_r (h_507698) rc_20 rv_507686
        refine g_iload C 4 dX7_readAll_71 rfl ?_
        exact g_zret (ty := .boolean) (r := v_507685) B K rfl (nar_z (rv_507685)) ⟨hU_507681, hF_507682, hG_507683, rv_507685⟩ dX7_readAll_73
      · skip
        have r_507700 := lt_l (hi := 19) (nle h_507698) rv_507686 rc_20 (by decide)
        refine g_iload C 4 dX7_readAll_19 rfl ?_
        refine g_if_eq C (tgt := 71) dX7_readAll_21 (by decide) (fun h_507701 => ?_) (fun h_507701 => ?_)
        · skip
          have r_507702 := (⟨(rv_507685).1, (eq_rg (h_507701) rc_0).2⟩ : Rg 0 0 v_507685)
          refine g_iload C 4 dX7_readAll_71 rfl ?_
          exact g_zret (ty := .boolean) (r := v_507685) B K rfl (nar_z (rg_w r_507702 (by decide) (by decide))) ⟨hU_507681, hF_507682, hG_507683, rg_w r_507702 (by decide) (by decide)⟩ dX7_readAll_73
        · skip
          have n_507703 : ¬ v_507685 = 0 := h_507701
          have r_507704 := ne_lo (lo := 1) n_507703 rv_507685 rc_0 rfl (by decide)
          refine g_aload_n C 1 dX7_readAll_24 rfl rfl ?_
          obtain ⟨x_507705, hx_507705, rx_507705⟩ := ex_get (I := I_507679) (a := a0) (j := 8) (lo := (-2147483648)) (hi := 2147483647) hU_507681.1 hLa0 (ro_o hka0 (by decide)) rfl
          refine g_getI C K hLa0 hka0 f_7_57 (v := x_507705) hx_507705 dX7_readAll_25 ?_
          refine g_bipush C (v := 18) dX7_readAll_28 (by decide) ?_
          refine g_icmp_ne C (tgt := 71) dX7_readAll_30 (by decide) (fun h_507706 => ?_) (fun h_507706 => ?_)
          · skip
            have n_507707 : ¬ x_507705 = 18 := h_507706
            refine g_iload C 4 dX7_readAll_71 rfl ?_
            exact g_zret (ty := .boolean) (r := v_507685) B K rfl (nar_z (rg_w r_507704 (by decide) (by decide))) ⟨hU_507681, hF_507682, hG_507683, rg_w r_507704 (by decide) (by decide)⟩ dX7_readAll_73
          · skip
            have r_507708 := (⟨(eq_rg (h_507706) rc_18).1, (eq_rg (h_507706) rc_18).2⟩ : Rg 18 18 x_507705)
            refine g_aload_n C 1 dX7_readAll_33 rfl rfl ?_
            refine g_callVV C K (c_X10_advance W9 hLa0 hka0   hU_507681) hLa0 hka0 (by decide) rfl v_7_60 rfl ⟨rfl, rfl⟩ ⟨Nat.le_of_ble_eq_true rfl, Nat.le_of_ble_eq_true rfl⟩ (Nat.le_of_ble_eq_true rfl) ⟨Nat.le_of_ble_eq_true rfl, Nat.le_of_ble_eq_true rfl⟩ dX7_readAll_34 rfl (st := []) (fun I_507710 J_507711 h_507712 => ?_)
            obtain ⟨hUI_507710, hFI_507710, hGJ_507711⟩ := h_507712
            have hF_507713 := fq_tr hF_507682 hFI_507710 (by decide)
            have hG_507714 := fq_tr hG_507683 hGJ_507711 (by decide)
            refine g_aload_n C 0 dX7_readAll_37 rfl rfl ?_
            refine g_aload_n C 1 dX7_readAll_38 rfl rfl ?_
            refine g_aload_n C 2 dX7_readAll_39 rfl rfl ?_
            refine g_iload_n C 3 dX7_readAll_40 rfl rfl ?_
            refine g_callVI C K (c_X7_readOne_8 W9 hLx hkx hLa0 hka0 hLa1 hka1 v_507684 (rv_507684) hUI_507710) hLx hkx (by decide) rfl v_7_67 rfl ⟨rfl, rfl⟩ ⟨Nat.le_of_ble_eq_true rfl, Nat.le_of_ble_eq_true rfl⟩ (Nat.le_of_ble_eq_true rfl) ⟨Nat.le_of_ble_eq_true rfl, Nat.le_of_ble_eq_true rfl⟩ dX7_readAll_41 rfl (st := []) (fun x_507715 I_507716 J_507717 h_507718 => ?_)
            obtain ⟨hUI_507716, hFI_507716, hGJ_507717, rx_507715⟩ := h_507718
            have hF_507719 := fq_tr hF_507713 hFI_507716 (by decide)
            have hG_507720 := fq_tr hG_507714 hGJ_507717 (by decide)
            refine g_if_eq C (tgt := 62) dX7_readAll_44 (by decide) (fun h_507721 => ?_) (fun h_507721 => ?_)
            · skip
              have r_507722 := (⟨(rx_507715).1, (eq_rg (h_507721) rc_0).2⟩ : Rg 0 0 x_507715)
              refine g_lo (is := [0, 1, 2, 3, 4, 5]) (lo2 := [(0, .ref x), (1, .ref a0), (2, .ref a1), (3, .int v_507684), (4, .int v_507685), (5, .int v_507686)]) rfl ?_
              exact j_62 I_507716 J_507717 hUI_507716 hF_507719 hG_507720 v_507684 (rv_507684) v_507685 (r_507704) (n_507703) v_507686 (r_507700) hm_507687
            · skip
              have n_507723 : ¬ x_507715 = 0 := h_507721
              have r_507724 := ne_lo (lo := 1) n_507723 rx_507715 rc_0 rfl (by decide)
              refine g_aload_n C 0 dX7_readAll_47 rfl rfl ?_
              refine g_bipush C (v := 18) dX7_readAll_48 (by decide) ?_
              refine g_iconst C (v := 0) dX7_readAll_50 (by decide) ?_
              refine g_iconst C (v := 0) dX7_readAll_51 (by decide) ?_
              refine g_callVI C K (c_X7_addStep W9 hLx hkx 18 0 0 (rg_w rc_0 (by decide) (by decide)) hUI_507716  (fun q => absurd q (by decide))) hLx hkx (by decide) rfl v_7_63 rfl ⟨rfl, rfl⟩ ⟨Nat.le_of_ble_eq_true rfl, Nat.le_of_ble_eq_true rfl⟩ (Nat.le_of_ble_eq_true rfl) ⟨Nat.le_of_ble_eq_true rfl, Nat.le_of_ble_eq_true rfl⟩ dX7_readAll_52 rfl (st := []) (fun x_507725 I_507726 J_507727 h_507728 => ?_)
              obtain ⟨hUI_507726, hFI_507726, hGJ_507727, rx_507725⟩ := h_507728
              have hF_507729 := fq_tr hF_507719 hFI_507726 (by decide)
              have hG_507730 := fq_tr hG_507720 hGJ_507727 (by decide)
              refine g_if_eq C (tgt := 62) dX7_readAll_55 (by decide) (fun h_507731 => ?_) (fun h_507731 => ?_)
              · skip
                have r_507732 := (⟨(rx_507725).1, (eq_rg (h_507731) rc_0).2⟩ : Rg 0 0 x_507725)
                refine g_lo (is := [0, 1, 2, 3, 4, 5]) (lo2 := [(0, .ref x), (1, .ref a0), (2, .ref a1), (3, .int v_507684), (4, .int v_507685), (5, .int v_507686)]) rfl ?_
                exact j_62 I_507726 J_507727 hUI_507726 hF_507729 hG_507730 v_507684 (rv_507684) v_507685 (r_507704) (n_507703) v_507686 (r_507700) hm_507687
              · skip
                have n_507733 : ¬ x_507725 = 0 := h_507731
                have r_507734 := ne_lo (lo := 1) n_507733 rx_507725 rc_0 rfl (by decide)
                refine g_iconst C (v := 1) dX7_readAll_58 (by decide) ?_
                refine g_goto C (tgt := 63) dX7_readAll_59 (by decide) ?_
                refine g_istore C dX7_readAll_63 (by decide) (lo2 := [(4, .int 1), (0, .ref x), (1, .ref a0), (2, .ref a1), (3, .int v_507684), (5, .int v_507686)]) rfl ?_
                obtain ⟨x_507735, hx_507735, rx_507735, tx_507735⟩ := ex_add (y := 1) 1 20 r_507700 rc_1 (by decide) (by decide) (by decide) (by decide)
                refine g_iinc C dX7_readAll_65 (k := 5) (v := x_507735) rfl hx_507735 (by decide) (lo2 := [(5, .int x_507735), (4, .int 1), (0, .ref x), (1, .ref a0), (2, .ref a1), (3, .int v_507684)]) rfl ?_
                refine g_goto C (tgt := 12) dX7_readAll_68 (by decide) ?_
                refine g_lo (is := [2, 3, 4, 5, 1, 0]) (lo2 := [(0, .ref x), (1, .ref a0), (2, .ref a1), (3, .int v_507684), (4, .int 1), (5, .int x_507735)]) rfl ?_
                exact ih_12 I_507726 J_507727 hUI_507726 hF_507729 hG_507730 v_507684 (rv_507684) 1 (rg_w rc_1 (by decide) (by decide)) x_507735 (rg_w rx_507735 (by decide) (by decide)) (ms_1 hm_507687 (ti_k tx_507735 rc_1) (by decide))
  refine g_aload_n C 0 dX7_readAll_0 rfl rfl ?_
  refine g_aload_n C 1 dX7_readAll_1 rfl rfl ?_
  refine g_aload_n C 2 dX7_readAll_2 rfl rfl ?_
  refine g_iload_n C 3 dX7_readAll_3 rfl rfl ?_
  refine g_callVI C K (c_X7_readOne_8 W9 hLx hkx hLa0 hka0 hLa1 hka1 a2 (ra2) hU) hLx hkx (by decide) rfl v_7_67 rfl ⟨rfl, rfl⟩ ⟨Nat.le_of_ble_eq_true rfl, Nat.le_of_ble_eq_true rfl⟩ (Nat.le_of_ble_eq_true rfl) ⟨Nat.le_of_ble_eq_true rfl, Nat.le_of_ble_eq_true rfl⟩ dX7_readAll_4 rfl (st := []) (fun x_507736 I_507737 J_507738 h_507739 => ?_)
  obtain ⟨hUI_507737, hFI_507737, hGJ_507738, rx_507736⟩ := h_507739
  have hF_507740 := fq_tr hF hFI_507737 (by decide)
  have hG_507741 := fq_tr hG hGJ_507738 (by decide)
  refine g_istore C dX7_readAll_7 (by decide) (lo2 := [(4, .int x_507736), (0, .ref x), (1, .ref a0), (2, .ref a1), (3, .int a2)]) rfl ?_
  refine g_iconst C (v := 0) dX7_readAll_9 (by decide) ?_
  refine g_istore C dX7_readAll_10 (by decide) (lo2 := [(5, .int 0), (4, .int x_507736), (0, .ref x), (1, .ref a0), (2, .ref a1), (3, .int a2)]) rfl ?_
  refine g_lo (is := [2, 3, 4, 5, 1, 0]) (lo2 := [(0, .ref x), (1, .ref a0), (2, .ref a1), (3, .int a2), (4, .int x_507736), (5, .int 0)]) rfl ?_
  exact l_12 21 I_507737 J_507738 hUI_507737 hF_507740 hG_507741 a2 (ra2) x_507736 (rx_507736) 0 (rg_w rc_0 (by decide) (by decide)) (ms_s (a := 0) (b := 20) (N := 21) (rg_w rc_0 (by decide) (by decide)) (by decide))
set_option maxRecDepth 100000 in
set_option maxHeartbeats 8000000 in
theorem c_X7_readCond_8 {l : Launch} {D : va_G} {cy : Nat → ClassId} {L : List Nat} {κ ln : Nat → Nat} {R : Nat → Nat → Option Nat} {I : Nat → Nat → Int32} {J : Nat → Nat → Int64} {ow : Nat → Nat × Nat} (W9 : ∀ a ∈ L, Shp L κ ln R ow a) {x : Nat} (hLx : x ∈ L) (hkx : κ x = 7) {a0 : Nat} (hLa0 : a0 ∈ L) (hka0 : κ a0 = 10) {a1 : Nat} (hLa1 : a1 ∈ L) (hka1 : κ a1 = 8) (a2 : Int32) (ra2 : Rg 8 8 a2) (hU : Iv L κ R ow I) : CtI l yX7_readCond cX7_readCond 6 (some .boolean) { frames := 6, cells := 0, slots := 0, locals := 144 } D cy L κ ln R I J [.ref x, .ref a0, .ref a1, .int a2] (fun r I2 J2 => Iv L κ R ow I2 ∧ Fq L κ ow [704, 705, 1007, 1008, 1009, 1011, 1012, 52000, 52100, 52200] I I2 ∧ Fq L κ ow [1010] J J2 ∧ Rg 0 1 r) := by
  refine CtI.of (by decide +kernel) (Nat.le_of_ble_eq_true rfl) ?_
  intro p e s m below meth c B K
  have C := B.1
  have hF : Fq L κ ow [704, 705, 1007, 1008, 1009, 1011, 1012, 52000, 52100, 52200] I I := fq_rf
  have hG : Fq L κ ow [1010] J J := fq_rf
  refine g_lo (is := [0, 1, 2, 3]) (lo2 := [(0, .ref x), (1, .ref a0), (2, .ref a1), (3, .int a2)]) rfl ?_
  have l_12 : ∀ (n_12 : Nat) (I_508422 : Nat → Nat → Int32) (J_508423 : Nat → Nat → Int64) (hU_508424 : Iv L κ R ow I_508422) (hF_508425 : Fq L κ ow [704, 705, 1007, 1008, 1009, 1011, 1012, 52000, 52100, 52200] I I_508422) (hG_508426 : Fq L κ ow [1010] J J_508423) (v_508427 : Int32) (rv_508427 : Rg 8 8 v_508427) (v_508428 : Int32) (rv_508428 : Rg 0 1 v_508428) (v_508429 : Int32) (rv_508429 : Rg 0 20 v_508429) (hm_508430 : 20 < (v_508429 : Int32).toInt + (n_12 : Int)), WG p l e { frames := 6, cells := 0, slots := 0, locals := 144 } s m ([.ref x, .ref a0, .ref a1, .int a2] : List Value).toArray below meth c 6 0 0 (MQ below (Qi_ D cy L κ ln R (fun r I2 J2 => Iv L κ R ow I2 ∧ Fq L κ ow [704, 705, 1007, 1008, 1009, 1011, 1012, 52000, 52100, 52200] I I2 ∧ Fq L κ ow [1010] J J2 ∧ Rg 0 1 r)) ([.ref x, .ref a0, .ref a1, .int a2] : List Value).toArray s 0 0 (Al_ L)) D cy (Al_ L) s.heap L κ ln R I_508422 J_508423 12 [(0, .ref x), (1, .ref a0), (2, .ref a1), (3, .int v_508427), (4, .int v_508428), (5, .int v_508429)] [] := by
    intro n_12
    induction n_12 with
    | zero =>
      intro I_508422 J_508423 hU_508424 hF_508425 hG_508426 v_508427 rv_508427 v_508428 rv_508428 v_508429 rv_508429 hm_508430
      exact ms_0 rv_508429 hm_508430
    | succ n_12 ih_12 =>
      intro I_508422 J_508423 hU_508424 hF_508425 hG_508426 v_508427 rv_508427 v_508428 rv_508428 v_508429 rv_508429 hm_508430
      have j_62 : ∀ (I_508431 : Nat → Nat → Int32) (J_508432 : Nat → Nat → Int64) (hU_508433 : Iv L κ R ow I_508431) (hF_508434 : Fq L κ ow [704, 705, 1007, 1008, 1009, 1011, 1012, 52000, 52100, 52200] I I_508431) (hG_508435 : Fq L κ ow [1010] J J_508432) (v_508436 : Int32) (rv_508436 : Rg 8 8 v_508436) (v_508437 : Int32) (rv_508437 : Rg 1 1 v_508437) (nv_508437_0 : ¬ v_508437 = 0) (v_508438 : Int32) (rv_508438 : Rg 0 19 v_508438) (hm_508439 : 20 < (v_508438 : Int32).toInt + ((n_12 + 1 : Nat) : Int)), WG p l e { frames := 6, cells := 0, slots := 0, locals := 144 } s m ([.ref x, .ref a0, .ref a1, .int a2] : List Value).toArray below meth c 6 0 0 (MQ below (Qi_ D cy L κ ln R (fun r I2 J2 => Iv L κ R ow I2 ∧ Fq L κ ow [704, 705, 1007, 1008, 1009, 1011, 1012, 52000, 52100, 52200] I I2 ∧ Fq L κ ow [1010] J J2 ∧ Rg 0 1 r)) ([.ref x, .ref a0, .ref a1, .int a2] : List Value).toArray s 0 0 (Al_ L)) D cy (Al_ L) s.heap L κ ln R I_508431 J_508432 62 [(0, .ref x), (1, .ref a0), (2, .ref a1), (3, .int v_508436), (4, .int v_508437), (5, .int v_508438)] [] := by
        intro I_508431 J_508432 hU_508433 hF_508434 hG_508435 v_508436 rv_508436 v_508437 rv_508437 nv_508437_0 v_508438 rv_508438 hm_508439
        refine g_iconst C (v := 0) dX7_readCond_62 (by decide) ?_
        refine g_istore C dX7_readCond_63 (by decide) (lo2 := [(4, .int 0), (0, .ref x), (1, .ref a0), (2, .ref a1), (3, .int v_508436), (5, .int v_508438)]) rfl ?_
        obtain ⟨x_508440, hx_508440, rx_508440, tx_508440⟩ := ex_add (y := 1) 1 20 rv_508438 rc_1 (by decide) (by decide) (by decide) (by decide)
        refine g_iinc C dX7_readCond_65 (k := 5) (v := x_508440) rfl hx_508440 (by decide) (lo2 := [(5, .int x_508440), (4, .int 0), (0, .ref x), (1, .ref a0), (2, .ref a1), (3, .int v_508436)]) rfl ?_
        refine g_goto C (tgt := 12) dX7_readCond_68 (by decide) ?_
        refine g_lo (is := [2, 3, 4, 5, 1, 0]) (lo2 := [(0, .ref x), (1, .ref a0), (2, .ref a1), (3, .int v_508436), (4, .int 0), (5, .int x_508440)]) rfl ?_
        exact ih_12 I_508431 J_508432 hU_508433 hF_508434 hG_508435 v_508436 (rv_508436) 0 (rg_w rc_0 (by decide) (by decide)) x_508440 (rg_w rx_508440 (by decide) (by decide)) (ms_1 hm_508439 (ti_k tx_508440 rc_1) (by decide))
      refine g_iload C 5 dX7_readCond_12 rfl ?_
      refine g_bipush C (v := 20) dX7_readCond_14 (by decide) ?_
      refine g_icmp_ge C (tgt := 71) dX7_readCond_16 (by decide) (fun h_508441 => ?_) (fun h_508441 => ?_)
      · skip
        have r_508442 := le_r (h_508441) rc_20 rv_508429
        refine g_iload C 4 dX7_readCond_71 rfl ?_
        exact g_zret (ty := .boolean) (r := v_508428) B K rfl (nar_z (rv_508428)) ⟨hU_508424, hF_508425, hG_508426, rv_508428⟩ dX7_readCond_73
      · skip
        have r_508443 := lt_l (hi := 19) (nle h_508441) rv_508429 rc_20 (by decide)
        refine g_iload C 4 dX7_readCond_19 rfl ?_
        refine g_if_eq C (tgt := 71) dX7_readCond_21 (by decide) (fun h_508444 => ?_) (fun h_508444 => ?_)
        · skip
          have r_508445 := (⟨(rv_508428).1, (eq_rg (h_508444) rc_0).2⟩ : Rg 0 0 v_508428)
          refine g_iload C 4 dX7_readCond_71 rfl ?_
          exact g_zret (ty := .boolean) (r := v_508428) B K rfl (nar_z (rg_w r_508445 (by decide) (by decide))) ⟨hU_508424, hF_508425, hG_508426, rg_w r_508445 (by decide) (by decide)⟩ dX7_readCond_73
        · skip
          have n_508446 : ¬ v_508428 = 0 := h_508444
          have r_508447 := ne_lo (lo := 1) n_508446 rv_508428 rc_0 rfl (by decide)
          refine g_aload_n C 1 dX7_readCond_24 rfl rfl ?_
          obtain ⟨x_508448, hx_508448, rx_508448⟩ := ex_get (I := I_508422) (a := a0) (j := 8) (lo := (-2147483648)) (hi := 2147483647) hU_508424.1 hLa0 (ro_o hka0 (by decide)) rfl
          refine g_getI C K hLa0 hka0 f_7_57 (v := x_508448) hx_508448 dX7_readCond_25 ?_
          refine g_bipush C (v := 17) dX7_readCond_28 (by decide) ?_
          refine g_icmp_ne C (tgt := 71) dX7_readCond_30 (by decide) (fun h_508449 => ?_) (fun h_508449 => ?_)
          · skip
            have n_508450 : ¬ x_508448 = 17 := h_508449
            refine g_iload C 4 dX7_readCond_71 rfl ?_
            exact g_zret (ty := .boolean) (r := v_508428) B K rfl (nar_z (rg_w r_508447 (by decide) (by decide))) ⟨hU_508424, hF_508425, hG_508426, rg_w r_508447 (by decide) (by decide)⟩ dX7_readCond_73
          · skip
            have r_508451 := (⟨(eq_rg (h_508449) rc_17).1, (eq_rg (h_508449) rc_17).2⟩ : Rg 17 17 x_508448)
            refine g_aload_n C 1 dX7_readCond_33 rfl rfl ?_
            refine g_callVV C K (c_X10_advance W9 hLa0 hka0   hU_508424) hLa0 hka0 (by decide) rfl v_7_60 rfl ⟨rfl, rfl⟩ ⟨Nat.le_of_ble_eq_true rfl, Nat.le_of_ble_eq_true rfl⟩ (Nat.le_of_ble_eq_true rfl) ⟨Nat.le_of_ble_eq_true rfl, Nat.le_of_ble_eq_true rfl⟩ dX7_readCond_34 rfl (st := []) (fun I_508453 J_508454 h_508455 => ?_)
            obtain ⟨hUI_508453, hFI_508453, hGJ_508454⟩ := h_508455
            have hF_508456 := fq_tr hF_508425 hFI_508453 (by decide)
            have hG_508457 := fq_tr hG_508426 hGJ_508454 (by decide)
            refine g_aload_n C 0 dX7_readCond_37 rfl rfl ?_
            refine g_aload_n C 1 dX7_readCond_38 rfl rfl ?_
            refine g_aload_n C 2 dX7_readCond_39 rfl rfl ?_
            refine g_iload_n C 3 dX7_readCond_40 rfl rfl ?_
            refine g_callVI C K (c_X7_readAll_8 W9 hLx hkx hLa0 hka0 hLa1 hka1 v_508427 (rv_508427) hUI_508453) hLx hkx (by decide) rfl v_7_54 rfl ⟨rfl, rfl⟩ ⟨Nat.le_of_ble_eq_true rfl, Nat.le_of_ble_eq_true rfl⟩ (Nat.le_of_ble_eq_true rfl) ⟨Nat.le_of_ble_eq_true rfl, Nat.le_of_ble_eq_true rfl⟩ dX7_readCond_41 rfl (st := []) (fun x_508458 I_508459 J_508460 h_508461 => ?_)
            obtain ⟨hUI_508459, hFI_508459, hGJ_508460, rx_508458⟩ := h_508461
            have hF_508462 := fq_tr hF_508456 hFI_508459 (by decide)
            have hG_508463 := fq_tr hG_508457 hGJ_508460 (by decide)
            refine g_if_eq C (tgt := 62) dX7_readCond_44 (by decide) (fun h_508464 => ?_) (fun h_508464 => ?_)
            · skip
              have r_508465 := (⟨(rx_508458).1, (eq_rg (h_508464) rc_0).2⟩ : Rg 0 0 x_508458)
              refine g_lo (is := [0, 1, 2, 3, 4, 5]) (lo2 := [(0, .ref x), (1, .ref a0), (2, .ref a1), (3, .int v_508427), (4, .int v_508428), (5, .int v_508429)]) rfl ?_
              exact j_62 I_508459 J_508460 hUI_508459 hF_508462 hG_508463 v_508427 (rv_508427) v_508428 (r_508447) (n_508446) v_508429 (r_508443) hm_508430
            · skip
              have n_508466 : ¬ x_508458 = 0 := h_508464
              have r_508467 := ne_lo (lo := 1) n_508466 rx_508458 rc_0 rfl (by decide)
              refine g_aload_n C 0 dX7_readCond_47 rfl rfl ?_
              refine g_bipush C (v := 17) dX7_readCond_48 (by decide) ?_
              refine g_iconst C (v := 0) dX7_readCond_50 (by decide) ?_
              refine g_iconst C (v := 0) dX7_readCond_51 (by decide) ?_
              refine g_callVI C K (c_X7_addStep W9 hLx hkx 17 0 0 (rg_w rc_0 (by decide) (by decide)) hUI_508459  (fun q => absurd q (by decide))) hLx hkx (by decide) rfl v_7_63 rfl ⟨rfl, rfl⟩ ⟨Nat.le_of_ble_eq_true rfl, Nat.le_of_ble_eq_true rfl⟩ (Nat.le_of_ble_eq_true rfl) ⟨Nat.le_of_ble_eq_true rfl, Nat.le_of_ble_eq_true rfl⟩ dX7_readCond_52 rfl (st := []) (fun x_508468 I_508469 J_508470 h_508471 => ?_)
              obtain ⟨hUI_508469, hFI_508469, hGJ_508470, rx_508468⟩ := h_508471
              have hF_508472 := fq_tr hF_508462 hFI_508469 (by decide)
              have hG_508473 := fq_tr hG_508463 hGJ_508470 (by decide)
              refine g_if_eq C (tgt := 62) dX7_readCond_55 (by decide) (fun h_508474 => ?_) (fun h_508474 => ?_)
              · skip
                have r_508475 := (⟨(rx_508468).1, (eq_rg (h_508474) rc_0).2⟩ : Rg 0 0 x_508468)
                refine g_lo (is := [0, 1, 2, 3, 4, 5]) (lo2 := [(0, .ref x), (1, .ref a0), (2, .ref a1), (3, .int v_508427), (4, .int v_508428), (5, .int v_508429)]) rfl ?_
                exact j_62 I_508469 J_508470 hUI_508469 hF_508472 hG_508473 v_508427 (rv_508427) v_508428 (r_508447) (n_508446) v_508429 (r_508443) hm_508430
              · skip
                have n_508476 : ¬ x_508468 = 0 := h_508474
                have r_508477 := ne_lo (lo := 1) n_508476 rx_508468 rc_0 rfl (by decide)
                refine g_iconst C (v := 1) dX7_readCond_58 (by decide) ?_
                refine g_goto C (tgt := 63) dX7_readCond_59 (by decide) ?_
                refine g_istore C dX7_readCond_63 (by decide) (lo2 := [(4, .int 1), (0, .ref x), (1, .ref a0), (2, .ref a1), (3, .int v_508427), (5, .int v_508429)]) rfl ?_
                obtain ⟨x_508478, hx_508478, rx_508478, tx_508478⟩ := ex_add (y := 1) 1 20 r_508443 rc_1 (by decide) (by decide) (by decide) (by decide)
                refine g_iinc C dX7_readCond_65 (k := 5) (v := x_508478) rfl hx_508478 (by decide) (lo2 := [(5, .int x_508478), (4, .int 1), (0, .ref x), (1, .ref a0), (2, .ref a1), (3, .int v_508427)]) rfl ?_
                refine g_goto C (tgt := 12) dX7_readCond_68 (by decide) ?_
                refine g_lo (is := [2, 3, 4, 5, 1, 0]) (lo2 := [(0, .ref x), (1, .ref a0), (2, .ref a1), (3, .int v_508427), (4, .int 1), (5, .int x_508478)]) rfl ?_
                exact ih_12 I_508469 J_508470 hUI_508469 hF_508472 hG_508473 v_508427 (rv_508427) 1 (rg_w rc_1 (by decide) (by decide)) x_508478 (rg_w rx_508478 (by decide) (by decide)) (ms_1 hm_508430 (ti_k tx_508478 rc_1) (by decide))
  refine g_aload_n C 0 dX7_readCond_0 rfl rfl ?_
  refine g_aload_n C 1 dX7_readCond_1 rfl rfl ?_
  refine g_aload_n C 2 dX7_readCond_2 rfl rfl ?_
  refine g_iload_n C 3 dX7_readCond_3 rfl rfl ?_
  refine g_callVI C K (c_X7_readAll_8 W9 hLx hkx hLa0 hka0 hLa1 hka1 a2 (ra2) hU) hLx hkx (by decide) rfl v_7_54 rfl ⟨rfl, rfl⟩ ⟨Nat.le_of_ble_eq_true rfl, Nat.le_of_ble_eq_true rfl⟩ (Nat.le_of_ble_eq_true rfl) ⟨Nat.le_of_ble_eq_true rfl, Nat.le_of_ble_eq_true rfl⟩ dX7_readCond_4 rfl (st := []) (fun x_508479 I_508480 J_508481 h_508482 => ?_)
  obtain ⟨hUI_508480, hFI_508480, hGJ_508481, rx_508479⟩ := h_508482
  have hF_508483 := fq_tr hF hFI_508480 (by decide)
  have hG_508484 := fq_tr hG hGJ_508481 (by decide)
  refine g_istore C dX7_readCond_7 (by decide) (lo2 := [(4, .int x_508479), (0, .ref x), (1, .ref a0), (2, .ref a1), (3, .int a2)]) rfl ?_
  refine g_iconst C (v := 0) dX7_readCond_9 (by decide) ?_
  refine g_istore C dX7_readCond_10 (by decide) (lo2 := [(5, .int 0), (4, .int x_508479), (0, .ref x), (1, .ref a0), (2, .ref a1), (3, .int a2)]) rfl ?_
  refine g_lo (is := [2, 3, 4, 5, 1, 0]) (lo2 := [(0, .ref x), (1, .ref a0), (2, .ref a1), (3, .int a2), (4, .int x_508479), (5, .int 0)]) rfl ?_
  exact l_12 21 I_508480 J_508481 hUI_508480 hF_508483 hG_508484 a2 (ra2) x_508479 (rx_508479) 0 (rg_w rc_0 (by decide) (by decide)) (ms_s (a := 0) (b := 20) (N := 21) (rg_w rc_0 (by decide) (by decide)) (by decide))
