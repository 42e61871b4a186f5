theorem dX0_readFrom_0 : decode cX0_readFrom 0 = .ok (.aload_n 1, 1) := by decide +kernel
theorem dX0_readFrom_1 : decode cX0_readFrom 1 = .ok (.sipush 400, 3) := by decide +kernel
theorem dX0_readFrom_4 : decode cX0_readFrom 4 = .ok (.invokevirtual 44, 3) := by decide +kernel
theorem dX0_readFrom_7 : decode cX0_readFrom 7 = .ok (.aload_n 0, 1) := by decide +kernel
theorem dX0_readFrom_8 : decode cX0_readFrom 8 = .ok (.iconst 0, 1) := by decide +kernel
theorem dX0_readFrom_9 : decode cX0_readFrom 9 = .ok (.putfield 24, 3) := by decide +kernel
theorem dX0_readFrom_12 : decode cX0_readFrom 12 = .ok (.aload_n 0, 1) := by decide +kernel
theorem dX0_readFrom_13 : decode cX0_readFrom 13 = .ok (.getfield 24, 3) := by decide +kernel
theorem dX0_readFrom_16 : decode cX0_readFrom 16 = .ok (.bipush 40, 2) := by decide +kernel
theorem dX0_readFrom_18 : decode cX0_readFrom 18 = .ok (.if_icmp .gt 34, 3) := by decide +kernel
theorem dX0_readFrom_21 : decode cX0_readFrom 21 = .ok (.aload_n 1, 1) := by decide +kernel
theorem dX0_readFrom_22 : decode cX0_readFrom 22 = .ok (.getfield 50, 3) := by decide +kernel
theorem dX0_readFrom_25 : decode cX0_readFrom 25 = .ok (.bipush 102, 2) := by decide +kernel
theorem dX0_readFrom_27 : decode cX0_readFrom 27 = .ok (.if_icmp .eq 25, 3) := by decide +kernel
theorem dX0_readFrom_30 : decode cX0_readFrom 30 = .ok (.aload_n 0, 1) := by decide +kernel
theorem dX0_readFrom_31 : decode cX0_readFrom 31 = .ok (.aload_n 1, 1) := by decide +kernel
theorem dX0_readFrom_32 : decode cX0_readFrom 32 = .ok (.aload_n 2, 1) := by decide +kernel
theorem dX0_readFrom_33 : decode cX0_readFrom 33 = .ok (.invokevirtual 53, 3) := by decide +kernel
theorem dX0_readFrom_36 : decode cX0_readFrom 36 = .ok (.ifCond .eq 16, 3) := by decide +kernel
theorem dX0_readFrom_39 : decode cX0_readFrom 39 = .ok (.aload_n 0, 1) := by decide +kernel
theorem dX0_readFrom_40 : decode cX0_readFrom 40 = .ok (.dup, 1) := by decide +kernel
theorem dX0_readFrom_41 : decode cX0_readFrom 41 = .ok (.getfield 24, 3) := by decide +kernel
theorem dX0_readFrom_44 : decode cX0_readFrom 44 = .ok (.iconst 1, 1) := by decide +kernel
theorem dX0_readFrom_45 : decode cX0_readFrom 45 = .ok (.iadd, 1) := by decide +kernel
theorem dX0_readFrom_46 : decode cX0_readFrom 46 = .ok (.putfield 24, 3) := by decide +kernel
theorem dX0_readFrom_49 : decode cX0_readFrom 49 = .ok (.goto (-37), 3) := by decide +kernel
theorem dX0_readFrom_52 : decode cX0_readFrom 52 = .ok (.return_, 1) := by decide +kernel
theorem dX0_readLine_0 : decode cX0_readLine 0 = .ok (.aload_n 1, 1) := by decide +kernel
theorem dX0_readLine_1 : decode cX0_readLine 1 = .ok (.getfield 50, 3) := by decide +kernel
theorem dX0_readLine_4 : decode cX0_readLine 4 = .ok (.bipush 100, 2) := by decide +kernel
theorem dX0_readLine_6 : decode cX0_readLine 6 = .ok (.if_icmp .ne 7, 3) := by decide +kernel
theorem dX0_readLine_9 : decode cX0_readLine 9 = .ok (.iconst 1, 1) := by decide +kernel
theorem dX0_readLine_10 : decode cX0_readLine 10 = .ok (.goto 4, 3) := by decide +kernel
theorem dX0_readLine_13 : decode cX0_readLine 13 = .ok (.iconst 0, 1) := by decide +kernel
theorem dX0_readLine_14 : decode cX0_readLine 14 = .ok (.istore_n 3, 1) := by decide +kernel
theorem dX0_readLine_15 : decode cX0_readLine 15 = .ok (.iload_n 3, 1) := by decide +kernel
theorem dX0_readLine_16 : decode cX0_readLine 16 = .ok (.ifCond .ne 18, 3) := by decide +kernel
theorem dX0_readLine_19 : decode cX0_readLine 19 = .ok (.aload_n 1, 1) := by decide +kernel
theorem dX0_readLine_20 : decode cX0_readLine 20 = .ok (.getfield 50, 3) := by decide +kernel
theorem dX0_readLine_23 : decode cX0_readLine 23 = .ok (.bipush 16, 2) := by decide +kernel
theorem dX0_readLine_25 : decode cX0_readLine 25 = .ok (.if_icmp .eq 9, 3) := by decide +kernel
theorem dX0_readLine_28 : decode cX0_readLine 28 = .ok (.aload_n 1, 1) := by decide +kernel
theorem dX0_readLine_29 : decode cX0_readLine 29 = .ok (.iconst 1, 1) := by decide +kernel
theorem dX0_readLine_30 : decode cX0_readLine 30 = .ok (.invokevirtual 57, 3) := by decide +kernel
theorem dX0_readLine_33 : decode cX0_readLine 33 = .ok (.ireturn, 1) := by decide +kernel
theorem dX0_readLine_34 : decode cX0_readLine 34 = .ok (.iload_n 3, 1) := by decide +kernel
theorem dX0_readLine_35 : decode cX0_readLine 35 = .ok (.ifCond .eq 14, 3) := by decide +kernel
theorem dX0_readLine_38 : decode cX0_readLine 38 = .ok (.aload_n 2, 1) := by decide +kernel
theorem dX0_readLine_39 : decode cX0_readLine 39 = .ok (.aload_n 1, 1) := by decide +kernel
theorem dX0_readLine_40 : decode cX0_readLine 40 = .ok (.getfield 61, 3) := by decide +kernel
theorem dX0_readLine_43 : decode cX0_readLine 43 = .ok (.invokevirtual 65, 3) := by decide +kernel
theorem dX0_readLine_46 : decode cX0_readLine 46 = .ok (.goto 4, 3) := by decide +kernel
theorem dX0_readLine_49 : decode cX0_readLine 49 = .ok (.iconst (-1), 1) := by decide +kernel
theorem dX0_readLine_50 : decode cX0_readLine 50 = .ok (.istore 4, 2) := by decide +kernel
theorem dX0_readLine_52 : decode cX0_readLine 52 = .ok (.iload_n 3, 1) := by decide +kernel
theorem dX0_readLine_53 : decode cX0_readLine 53 = .ok (.ifCond .eq 15, 3) := by decide +kernel
theorem dX0_readLine_56 : decode cX0_readLine 56 = .ok (.iload 4, 2) := by decide +kernel
theorem dX0_readLine_58 : decode cX0_readLine 58 = .ok (.iconst (-1), 1) := by decide +kernel
theorem dX0_readLine_59 : decode cX0_readLine 59 = .ok (.if_icmp .ne 9, 3) := by decide +kernel
theorem dX0_readLine_62 : decode cX0_readLine 62 = .ok (.aload_n 1, 1) := by decide +kernel
theorem dX0_readLine_63 : decode cX0_readLine 63 = .ok (.iconst 3, 1) := by decide +kernel
theorem dX0_readLine_64 : decode cX0_readLine 64 = .ok (.invokevirtual 57, 3) := by decide +kernel
theorem dX0_readLine_67 : decode cX0_readLine 67 = .ok (.ireturn, 1) := by decide +kernel
theorem dX0_readLine_68 : decode cX0_readLine 68 = .ok (.aload_n 0, 1) := by decide +kernel
theorem dX0_readLine_69 : decode cX0_readLine 69 = .ok (.getfield 24, 3) := by decide +kernel
theorem dX0_readLine_72 : decode cX0_readLine 72 = .ok (.bipush 40, 2) := by decide +kernel
theorem dX0_readLine_74 : decode cX0_readLine 74 = .ok (.if_icmp .lt 9, 3) := by decide +kernel
theorem dX0_readLine_77 : decode cX0_readLine 77 = .ok (.aload_n 1, 1) := by decide +kernel
theorem dX0_readLine_78 : decode cX0_readLine 78 = .ok (.iconst 4, 1) := by decide +kernel
theorem dX0_readLine_79 : decode cX0_readLine 79 = .ok (.invokevirtual 57, 3) := by decide +kernel
theorem dX0_readLine_82 : decode cX0_readLine 82 = .ok (.ireturn, 1) := by decide +kernel
theorem dX0_readLine_83 : decode cX0_readLine 83 = .ok (.aload_n 0, 1) := by decide +kernel
theorem dX0_readLine_84 : decode cX0_readLine 84 = .ok (.getfield 15, 3) := by decide +kernel
theorem dX0_readLine_87 : decode cX0_readLine 87 = .ok (.aload_n 0, 1) := by decide +kernel
theorem dX0_readLine_88 : decode cX0_readLine 88 = .ok (.getfield 24, 3) := by decide +kernel
theorem dX0_readLine_91 : decode cX0_readLine 91 = .ok (.iload 4, 2) := by decide +kernel
theorem dX0_readLine_93 : decode cX0_readLine 93 = .ok (.iastore, 1) := by decide +kernel
theorem dX0_readLine_94 : decode cX0_readLine 94 = .ok (.iload_n 3, 1) := by decide +kernel
theorem dX0_readLine_95 : decode cX0_readLine 95 = .ok (.ifCond .eq 7, 3) := by decide +kernel
theorem dX0_readLine_98 : decode cX0_readLine 98 = .ok (.aload_n 1, 1) := by decide +kernel
theorem dX0_readLine_99 : decode cX0_readLine 99 = .ok (.invokevirtual 71, 3) := by decide +kernel
theorem dX0_readLine_102 : decode cX0_readLine 102 = .ok (.aload_n 0, 1) := by decide +kernel
theorem dX0_readLine_103 : decode cX0_readLine 103 = .ok (.aload_n 1, 1) := by decide +kernel
theorem dX0_readLine_104 : decode cX0_readLine 104 = .ok (.aload_n 2, 1) := by decide +kernel
theorem dX0_readLine_105 : decode cX0_readLine 105 = .ok (.invokevirtual 74, 3) := by decide +kernel
theorem dX0_readLine_108 : decode cX0_readLine 108 = .ok (.ifCond .eq 16, 3) := by decide +kernel
theorem dX0_readLine_111 : decode cX0_readLine 111 = .ok (.aload_n 1, 1) := by decide +kernel
theorem dX0_readLine_112 : decode cX0_readLine 112 = .ok (.bipush 59, 2) := by decide +kernel
theorem dX0_readLine_114 : decode cX0_readLine 114 = .ok (.invokevirtual 77, 3) := by decide +kernel
theorem dX0_readLine_117 : decode cX0_readLine 117 = .ok (.ifCond .eq 7, 3) := by decide +kernel
theorem dX0_readLine_120 : decode cX0_readLine 120 = .ok (.iconst 1, 1) := by decide +kernel
theorem dX0_readLine_121 : decode cX0_readLine 121 = .ok (.goto 4, 3) := by decide +kernel
theorem dX0_readLine_124 : decode cX0_readLine 124 = .ok (.iconst 0, 1) := by decide +kernel
theorem dX0_readLine_125 : decode cX0_readLine 125 = .ok (.ireturn, 1) := by decide +kernel
theorem dX11_book_0 : decode cX11_book 0 = .ok (.iload_n 1, 1) := by decide +kernel
theorem dX11_book_1 : decode cX11_book 1 = .ok (.ifCond .eq 12, 3) := by decide +kernel
theorem dX11_book_4 : decode cX11_book 4 = .ok (.iload_n 1, 1) := by decide +kernel
theorem dX11_book_5 : decode cX11_book 5 = .ok (.iconst 1, 1) := by decide +kernel
theorem dX11_book_6 : decode cX11_book 6 = .ok (.if_icmp .eq 7, 3) := by decide +kernel
theorem dX11_book_9 : decode cX11_book 9 = .ok (.sipush (-1000), 3) := by decide +kernel
theorem dX11_book_12 : decode cX11_book 12 = .ok (.ireturn, 1) := by decide +kernel
theorem dX11_book_13 : decode cX11_book 13 = .ok (.aload_n 0, 1) := by decide +kernel
theorem dX11_book_14 : decode cX11_book 14 = .ok (.getfield 52, 3) := by decide +kernel
theorem dX11_book_17 : decode cX11_book 17 = .ok (.aload_n 0, 1) := by decide +kernel
theorem dX11_book_18 : decode cX11_book 18 = .ok (.getfield 10, 3) := by decide +kernel
theorem dX11_book_21 : decode cX11_book 21 = .ok (.aload_n 0, 1) := by decide +kernel
theorem dX11_book_22 : decode cX11_book 22 = .ok (.getfield 19, 3) := by decide +kernel
theorem dX11_book_25 : decode cX11_book 25 = .ok (.invokevirtual 340, 3) := by decide +kernel
theorem dX11_book_28 : decode cX11_book 28 = .ok (.aload_n 0, 1) := by decide +kernel
theorem dX11_book_29 : decode cX11_book 29 = .ok (.getfield 10, 3) := by decide +kernel
theorem dX11_book_32 : decode cX11_book 32 = .ok (.iconst 0, 1) := by decide +kernel
theorem dX11_book_33 : decode cX11_book 33 = .ok (.putfield 102, 3) := by decide +kernel
theorem dX11_book_36 : decode cX11_book 36 = .ok (.aload_n 0, 1) := by decide +kernel
theorem dX11_book_37 : decode cX11_book 37 = .ok (.getfield 10, 3) := by decide +kernel
theorem dX11_book_40 : decode cX11_book 40 = .ok (.getfield 113, 3) := by decide +kernel
theorem dX11_book_43 : decode cX11_book 43 = .ok (.ifCond .eq 14, 3) := by decide +kernel
theorem dX11_book_46 : decode cX11_book 46 = .ok (.bipush (-2), 2) := by decide +kernel
theorem dX11_book_48 : decode cX11_book 48 = .ok (.aload_n 0, 1) := by decide +kernel
theorem dX11_book_49 : decode cX11_book 49 = .ok (.getfield 10, 3) := by decide +kernel
theorem dX11_book_52 : decode cX11_book 52 = .ok (.getfield 116, 3) := by decide +kernel
theorem dX11_book_55 : decode cX11_book 55 = .ok (.isub, 1) := by decide +kernel
theorem dX11_book_56 : decode cX11_book 56 = .ok (.ireturn, 1) := by decide +kernel
theorem dX11_book_57 : decode cX11_book 57 = .ok (.aload_n 0, 1) := by decide +kernel
theorem dX11_book_58 : decode cX11_book 58 = .ok (.getfield 32, 3) := by decide +kernel
theorem dX11_book_61 : decode cX11_book 61 = .ok (.aload_n 0, 1) := by decide +kernel
theorem dX11_book_62 : decode cX11_book 62 = .ok (.getfield 28, 3) := by decide +kernel
theorem dX11_book_65 : decode cX11_book 65 = .ok (.invokevirtual 126, 3) := by decide +kernel
theorem dX11_book_68 : decode cX11_book 68 = .ok (.aload_n 0, 1) := by decide +kernel
theorem dX11_book_69 : decode cX11_book 69 = .ok (.getfield 52, 3) := by decide +kernel
theorem dX11_book_72 : decode cX11_book 72 = .ok (.aload_n 0, 1) := by decide +kernel
theorem dX11_book_73 : decode cX11_book 73 = .ok (.getfield 32, 3) := by decide +kernel
theorem dX11_book_76 : decode cX11_book 76 = .ok (.invokevirtual 343, 3) := by decide +kernel
theorem dX11_book_79 : decode cX11_book 79 = .ok (.iload_n 1, 1) := by decide +kernel
theorem dX11_book_80 : decode cX11_book 80 = .ok (.iconst 1, 1) := by decide +kernel
theorem dX11_book_81 : decode cX11_book 81 = .ok (.if_icmp .ne 32, 3) := by decide +kernel
theorem dX11_book_84 : decode cX11_book 84 = .ok (.aload_n 0, 1) := by decide +kernel
theorem dX11_book_85 : decode cX11_book 85 = .ok (.getfield 38, 3) := by decide +kernel
theorem dX11_book_88 : decode cX11_book 88 = .ok (.aload_n 0, 1) := by decide +kernel
theorem dX11_book_89 : decode cX11_book 89 = .ok (.getfield 28, 3) := by decide +kernel
theorem dX11_book_92 : decode cX11_book 92 = .ok (.invokevirtual 225, 3) := by decide +kernel
theorem dX11_book_95 : decode cX11_book 95 = .ok (.aload_n 0, 1) := by decide +kernel
theorem dX11_book_96 : decode cX11_book 96 = .ok (.getfield 38, 3) := by decide +kernel
theorem dX11_book_99 : decode cX11_book 99 = .ok (.invokevirtual 260, 3) := by decide +kernel
theorem dX11_book_102 : decode cX11_book 102 = .ok (.aload_n 0, 1) := by decide +kernel
theorem dX11_book_103 : decode cX11_book 103 = .ok (.getfield 28, 3) := by decide +kernel
theorem dX11_book_106 : decode cX11_book 106 = .ok (.aload_n 0, 1) := by decide +kernel
theorem dX11_book_107 : decode cX11_book 107 = .ok (.getfield 32, 3) := by decide +kernel
theorem dX11_book_110 : decode cX11_book 110 = .ok (.invokevirtual 126, 3) := by decide +kernel
theorem dX11_book_113 : decode cX11_book 113 = .ok (.aload_n 0, 1) := by decide +kernel
theorem dX11_book_114 : decode cX11_book 114 = .ok (.getfield 52, 3) := by decide +kernel
theorem dX11_book_117 : decode cX11_book 117 = .ok (.getfield 346, 3) := by decide +kernel
theorem dX11_book_120 : decode cX11_book 120 = .ok (.ifCond .ne 7, 3) := by decide +kernel
theorem dX11_book_123 : decode cX11_book 123 = .ok (.iconst (-1), 1) := by decide +kernel
theorem dX11_book_124 : decode cX11_book 124 = .ok (.goto 10, 3) := by decide +kernel
theorem dX11_book_127 : decode cX11_book 127 = .ok (.aload_n 0, 1) := by decide +kernel
theorem dX11_book_128 : decode cX11_book 128 = .ok (.getfield 52, 3) := by decide +kernel
theorem dX11_book_131 : decode cX11_book 131 = .ok (.getfield 349, 3) := by decide +kernel
theorem dX11_book_134 : decode cX11_book 134 = .ok (.ireturn, 1) := by decide +kernel
theorem dX11_told_0 : decode cX11_told 0 = .ok (.aload_n 0, 1) := by decide +kernel
theorem dX11_told_1 : decode cX11_told 1 = .ok (.getfield 52, 3) := by decide +kernel
theorem dX11_told_4 : decode cX11_told 4 = .ok (.getfield 352, 3) := by decide +kernel
theorem dX11_told_7 : decode cX11_told 7 = .ok (.ifCond .ne 5, 3) := by decide +kernel
theorem dX11_told_10 : decode cX11_told 10 = .ok (.iconst (-1), 1) := by decide +kernel
theorem dX11_told_11 : decode cX11_told 11 = .ok (.ireturn, 1) := by decide +kernel
theorem dX11_told_12 : decode cX11_told 12 = .ok (.iload_n 1, 1) := by decide +kernel
theorem dX11_told_13 : decode cX11_told 13 = .ok (.tableswitch 63 0 3 #[31, 39, 47, 55], 31) := by decide +kernel
theorem dX11_told_44 : decode cX11_told 44 = .ok (.aload_n 0, 1) := by decide +kernel
theorem dX11_told_45 : decode cX11_told 45 = .ok (.getfield 52, 3) := by decide +kernel
theorem dX11_told_48 : decode cX11_told 48 = .ok (.getfield 346, 3) := by decide +kernel
theorem dX11_told_51 : decode cX11_told 51 = .ok (.ireturn, 1) := by decide +kernel
theorem dX11_told_52 : decode cX11_told 52 = .ok (.aload_n 0, 1) := by decide +kernel
theorem dX11_told_53 : decode cX11_told 53 = .ok (.getfield 52, 3) := by decide +kernel
theorem dX11_told_56 : decode cX11_told 56 = .ok (.getfield 349, 3) := by decide +kernel
theorem dX11_told_59 : decode cX11_told 59 = .ok (.ireturn, 1) := by decide +kernel
theorem dX11_told_60 : decode cX11_told 60 = .ok (.aload_n 0, 1) := by decide +kernel
theorem dX11_told_61 : decode cX11_told 61 = .ok (.getfield 52, 3) := by decide +kernel
theorem dX11_told_64 : decode cX11_told 64 = .ok (.getfield 356, 3) := by decide +kernel
theorem dX11_told_67 : decode cX11_told 67 = .ok (.ireturn, 1) := by decide +kernel
theorem dX11_told_68 : decode cX11_told 68 = .ok (.aload_n 0, 1) := by decide +kernel
theorem dX11_told_69 : decode cX11_told 69 = .ok (.getfield 52, 3) := by decide +kernel
theorem dX11_told_72 : decode cX11_told 72 = .ok (.getfield 359, 3) := by decide +kernel
theorem dX11_told_75 : decode cX11_told 75 = .ok (.ireturn, 1) := by decide +kernel
theorem dX11_told_76 : decode cX11_told 76 = .ok (.iconst (-1), 1) := by decide +kernel
theorem dX11_told_77 : decode cX11_told 77 = .ok (.ireturn, 1) := by decide +kernel
theorem dX7_addStep_0 : decode cX7_addStep 0 = .ok (.aload_n 0, 1) := by decide +kernel
theorem dX7_addStep_1 : decode cX7_addStep 1 = .ok (.getfield 24, 3) := by decide +kernel
theorem dX7_addStep_4 : decode cX7_addStep 4 = .ok (.bipush 40, 2) := by decide +kernel
theorem dX7_addStep_6 : decode cX7_addStep 6 = .ok (.if_icmp .lt 5, 3) := by decide +kernel
theorem dX7_addStep_9 : decode cX7_addStep 9 = .ok (.iconst 0, 1) := by decide +kernel
theorem dX7_addStep_10 : decode cX7_addStep 10 = .ok (.ireturn, 1) := by decide +kernel
theorem dX7_addStep_11 : decode cX7_addStep 11 = .ok (.aload_n 0, 1) := by decide +kernel
theorem dX7_addStep_12 : decode cX7_addStep 12 = .ok (.getfield 11, 3) := by decide +kernel
theorem dX7_addStep_15 : decode cX7_addStep 15 = .ok (.aload_n 0, 1) := by decide +kernel
theorem dX7_addStep_16 : decode cX7_addStep 16 = .ok (.getfield 24, 3) := by decide +kernel
theorem dX7_addStep_19 : decode cX7_addStep 19 = .ok (.iload_n 1, 1) := by decide +kernel
theorem dX7_addStep_20 : decode cX7_addStep 20 = .ok (.iastore, 1) := by decide +kernel
theorem dX7_addStep_21 : decode cX7_addStep 21 = .ok (.aload_n 0, 1) := by decide +kernel
theorem dX7_addStep_22 : decode cX7_addStep 22 = .ok (.getfield 15, 3) := by decide +kernel
theorem dX7_addStep_25 : decode cX7_addStep 25 = .ok (.aload_n 0, 1) := by decide +kernel
theorem dX7_addStep_26 : decode cX7_addStep 26 = .ok (.getfield 24, 3) := by decide +kernel
theorem dX7_addStep_29 : decode cX7_addStep 29 = .ok (.iload_n 2, 1) := by decide +kernel
theorem dX7_addStep_30 : decode cX7_addStep 30 = .ok (.iastore, 1) := by decide +kernel
theorem dX7_addStep_31 : decode cX7_addStep 31 = .ok (.aload_n 0, 1) := by decide +kernel
theorem dX7_addStep_32 : decode cX7_addStep 32 = .ok (.getfield 18, 3) := by decide +kernel
theorem dX7_addStep_35 : decode cX7_addStep 35 = .ok (.aload_n 0, 1) := by decide +kernel
theorem dX7_addStep_36 : decode cX7_addStep 36 = .ok (.getfield 24, 3) := by decide +kernel
theorem dX7_addStep_39 : decode cX7_addStep 39 = .ok (.iload_n 3, 1) := by decide +kernel
theorem dX7_addStep_40 : decode cX7_addStep 40 = .ok (.iastore, 1) := by decide +kernel
theorem dX7_addStep_41 : decode cX7_addStep 41 = .ok (.aload_n 0, 1) := by decide +kernel
theorem dX7_addStep_42 : decode cX7_addStep 42 = .ok (.dup, 1) := by decide +kernel
theorem dX7_addStep_43 : decode cX7_addStep 43 = .ok (.getfield 24, 3) := by decide +kernel
theorem dX7_addStep_46 : decode cX7_addStep 46 = .ok (.iconst 1, 1) := by decide +kernel
theorem dX7_addStep_47 : decode cX7_addStep 47 = .ok (.iadd, 1) := by decide +kernel
theorem dX7_addStep_48 : decode cX7_addStep 48 = .ok (.putfield 24, 3) := by decide +kernel
theorem dX7_addStep_51 : decode cX7_addStep 51 = .ok (.iconst 1, 1) := by decide +kernel
theorem dX7_addStep_52 : decode cX7_addStep 52 = .ok (.ireturn, 1) := by decide +kernel
theorem dX7_become_0 : decode cX7_become 0 = .ok (.aload_n 1, 1) := by decide +kernel
theorem dX7_become_1 : decode cX7_become 1 = .ok (.getfield 11, 3) := by decide +kernel
theorem dX7_become_4 : decode cX7_become 4 = .ok (.iconst 0, 1) := by decide +kernel
theorem dX7_become_5 : decode cX7_become 5 = .ok (.aload_n 0, 1) := by decide +kernel
theorem dX7_become_6 : decode cX7_become 6 = .ok (.getfield 11, 3) := by decide +kernel
theorem dX7_become_9 : decode cX7_become 9 = .ok (.iconst 0, 1) := by decide +kernel
theorem dX7_become_10 : decode cX7_become 10 = .ok (.bipush 40, 2) := by decide +kernel
theorem dX7_become_12 : decode cX7_become 12 = .ok (.invokestatic 31, 3) := by decide +kernel
theorem dX7_become_15 : decode cX7_become 15 = .ok (.aload_n 1, 1) := by decide +kernel
theorem dX7_become_16 : decode cX7_become 16 = .ok (.getfield 15, 3) := by decide +kernel
theorem dX7_become_19 : decode cX7_become 19 = .ok (.iconst 0, 1) := by decide +kernel
theorem dX7_become_20 : decode cX7_become 20 = .ok (.aload_n 0, 1) := by decide +kernel
theorem dX7_become_21 : decode cX7_become 21 = .ok (.getfield 15, 3) := by decide +kernel
theorem dX7_become_24 : decode cX7_become 24 = .ok (.iconst 0, 1) := by decide +kernel
theorem dX7_become_25 : decode cX7_become 25 = .ok (.bipush 40, 2) := by decide +kernel
theorem dX7_become_27 : decode cX7_become 27 = .ok (.invokestatic 31, 3) := by decide +kernel
theorem dX7_become_30 : decode cX7_become 30 = .ok (.aload_n 1, 1) := by decide +kernel
theorem dX7_become_31 : decode cX7_become 31 = .ok (.getfield 18, 3) := by decide +kernel
theorem dX7_become_34 : decode cX7_become 34 = .ok (.iconst 0, 1) := by decide +kernel
theorem dX7_become_35 : decode cX7_become 35 = .ok (.aload_n 0, 1) := by decide +kernel
theorem dX7_become_36 : decode cX7_become 36 = .ok (.getfield 18, 3) := by decide +kernel
theorem dX7_become_39 : decode cX7_become 39 = .ok (.iconst 0, 1) := by decide +kernel
theorem dX7_become_40 : decode cX7_become 40 = .ok (.bipush 40, 2) := by decide +kernel
theorem dX7_become_42 : decode cX7_become 42 = .ok (.invokestatic 31, 3) := by decide +kernel
theorem dX7_become_45 : decode cX7_become 45 = .ok (.aload_n 0, 1) := by decide +kernel
theorem dX7_become_46 : decode cX7_become 46 = .ok (.aload_n 1, 1) := by decide +kernel
theorem dX7_become_47 : decode cX7_become 47 = .ok (.getfield 24, 3) := by decide +kernel
theorem dX7_become_50 : decode cX7_become 50 = .ok (.putfield 24, 3) := by decide +kernel
theorem dX7_become_53 : decode cX7_become 53 = .ok (.aload_n 0, 1) := by decide +kernel
theorem dX7_become_54 : decode cX7_become 54 = .ok (.aload_n 1, 1) := by decide +kernel
theorem dX7_become_55 : decode cX7_become 55 = .ok (.getfield 28, 3) := by decide +kernel
theorem dX7_become_58 : decode cX7_become 58 = .ok (.putfield 28, 3) := by decide +kernel
theorem dX7_become_61 : decode cX7_become 61 = .ok (.return_, 1) := by decide +kernel
theorem dX7_beginsOne_0 : decode cX7_beginsOne 0 = .ok (.iload_n 0, 1) := by decide +kernel
theorem dX7_beginsOne_1 : decode cX7_beginsOne 1 = .ok (.bipush 40, 2) := by decide +kernel
theorem dX7_beginsOne_3 : decode cX7_beginsOne 3 = .ok (.if_icmp .eq 20, 3) := by decide +kernel
theorem dX7_beginsOne_6 : decode cX7_beginsOne 6 = .ok (.iload_n 0, 1) := by decide +kernel
theorem dX7_beginsOne_7 : decode cX7_beginsOne 7 = .ok (.iconst 5, 1) := by decide +kernel
theorem dX7_beginsOne_8 : decode cX7_beginsOne 8 = .ok (.if_icmp .eq 15, 3) := by decide +kernel
theorem dX7_beginsOne_11 : decode cX7_beginsOne 11 = .ok (.iload_n 0, 1) := by decide +kernel
theorem dX7_beginsOne_12 : decode cX7_beginsOne 12 = .ok (.bipush 19, 2) := by decide +kernel
theorem dX7_beginsOne_14 : decode cX7_beginsOne 14 = .ok (.if_icmp .lt 13, 3) := by decide +kernel
theorem dX7_beginsOne_17 : decode cX7_beginsOne 17 = .ok (.iload_n 0, 1) := by decide +kernel
theorem dX7_beginsOne_18 : decode cX7_beginsOne 18 = .ok (.bipush 27, 2) := by decide +kernel
theorem dX7_beginsOne_20 : decode cX7_beginsOne 20 = .ok (.if_icmp .gt 7, 3) := by decide +kernel
theorem dX7_beginsOne_23 : decode cX7_beginsOne 23 = .ok (.iconst 1, 1) := by decide +kernel
theorem dX7_beginsOne_24 : decode cX7_beginsOne 24 = .ok (.goto 4, 3) := by decide +kernel
theorem dX7_beginsOne_27 : decode cX7_beginsOne 27 = .ok (.iconst 0, 1) := by decide +kernel
theorem dX7_beginsOne_28 : decode cX7_beginsOne 28 = .ok (.ireturn, 1) := by decide +kernel
theorem dX7_readAll_0 : decode cX7_readAll 0 = .ok (.aload_n 0, 1) := by decide +kernel
theorem dX7_readAll_1 : decode cX7_readAll 1 = .ok (.aload_n 1, 1) := by decide +kernel
theorem dX7_readAll_2 : decode cX7_readAll 2 = .ok (.aload_n 2, 1) := by decide +kernel
theorem dX7_readAll_3 : decode cX7_readAll 3 = .ok (.iload_n 3, 1) := by decide +kernel
theorem dX7_readAll_4 : decode cX7_readAll 4 = .ok (.invokevirtual 67, 3) := by decide +kernel
theorem dX7_readAll_7 : decode cX7_readAll 7 = .ok (.istore 4, 2) := by decide +kernel
theorem dX7_readAll_9 : decode cX7_readAll 9 = .ok (.iconst 0, 1) := by decide +kernel
theorem dX7_readAll_10 : decode cX7_readAll 10 = .ok (.istore 5, 2) := by decide +kernel
theorem dX7_readAll_12 : decode cX7_readAll 12 = .ok (.iload 5, 2) := by decide +kernel
theorem dX7_readAll_14 : decode cX7_readAll 14 = .ok (.bipush 20, 2) := by decide +kernel
theorem dX7_readAll_16 : decode cX7_readAll 16 = .ok (.if_icmp .ge 55, 3) := by decide +kernel
theorem dX7_readAll_19 : decode cX7_readAll 19 = .ok (.iload 4, 2) := by decide +kernel
theorem dX7_readAll_21 : decode cX7_readAll 21 = .ok (.ifCond .eq 50, 3) := by decide +kernel
theorem dX7_readAll_24 : decode cX7_readAll 24 = .ok (.aload_n 1, 1) := by decide +kernel
theorem dX7_readAll_25 : decode cX7_readAll 25 = .ok (.getfield 57, 3) := by decide +kernel
theorem dX7_readAll_28 : decode cX7_readAll 28 = .ok (.bipush 18, 2) := by decide +kernel
theorem dX7_readAll_30 : decode cX7_readAll 30 = .ok (.if_icmp .ne 41, 3) := by decide +kernel
theorem dX7_readAll_33 : decode cX7_readAll 33 = .ok (.aload_n 1, 1) := by decide +kernel
theorem dX7_readAll_34 : decode cX7_readAll 34 = .ok (.invokevirtual 60, 3) := by decide +kernel
theorem dX7_readAll_37 : decode cX7_readAll 37 = .ok (.aload_n 0, 1) := by decide +kernel
theorem dX7_readAll_38 : decode cX7_readAll 38 = .ok (.aload_n 1, 1) := by decide +kernel
theorem dX7_readAll_39 : decode cX7_readAll 39 = .ok (.aload_n 2, 1) := by decide +kernel
theorem dX7_readAll_40 : decode cX7_readAll 40 = .ok (.iload_n 3, 1) := by decide +kernel
theorem dX7_readAll_41 : decode cX7_readAll 41 = .ok (.invokevirtual 67, 3) := by decide +kernel
theorem dX7_readAll_44 : decode cX7_readAll 44 = .ok (.ifCond .eq 18, 3) := by decide +kernel
theorem dX7_readAll_47 : decode cX7_readAll 47 = .ok (.aload_n 0, 1) := by decide +kernel
theorem dX7_readAll_48 : decode cX7_readAll 48 = .ok (.bipush 18, 2) := by decide +kernel
theorem dX7_readAll_50 : decode cX7_readAll 50 = .ok (.iconst 0, 1) := by decide +kernel
theorem dX7_readAll_51 : decode cX7_readAll 51 = .ok (.iconst 0, 1) := by decide +kernel
theorem dX7_readAll_52 : decode cX7_readAll 52 = .ok (.invokevirtual 63, 3) := by decide +kernel
theorem dX7_readAll_55 : decode cX7_readAll 55 = .ok (.ifCond .eq 7, 3) := by decide +kernel
theorem dX7_readAll_58 : decode cX7_readAll 58 = .ok (.iconst 1, 1) := by decide +kernel
theorem dX7_readAll_59 : decode cX7_readAll 59 = .ok (.goto 4, 3) := by decide +kernel
theorem dX7_readAll_62 : decode cX7_readAll 62 = .ok (.iconst 0, 1) := by decide +kernel
theorem dX7_readAll_63 : decode cX7_readAll 63 = .ok (.istore 4, 2) := by decide +kernel
theorem dX7_readAll_65 : decode cX7_readAll 65 = .ok (.iinc 5 1, 3) := by decide +kernel
theorem dX7_readAll_68 : decode cX7_readAll 68 = .ok (.goto (-56), 3) := by decide +kernel
theorem dX7_readAll_71 : decode cX7_readAll 71 = .ok (.iload 4, 2) := by decide +kernel
theorem dX7_readAll_73 : decode cX7_readAll 73 = .ok (.ireturn, 1) := by decide +kernel
theorem dX7_readCond_0 : decode cX7_readCond 0 = .ok (.aload_n 0, 1) := by decide +kernel
theorem dX7_readCond_1 : decode cX7_readCond 1 = .ok (.aload_n 1, 1) := by decide +kernel
theorem dX7_readCond_2 : decode cX7_readCond 2 = .ok (.aload_n 2, 1) := by decide +kernel
theorem dX7_readCond_3 : decode cX7_readCond 3 = .ok (.iload_n 3, 1) := by decide +kernel
theorem dX7_readCond_4 : decode cX7_readCond 4 = .ok (.invokevirtual 54, 3) := by decide +kernel
theorem dX7_readCond_7 : decode cX7_readCond 7 = .ok (.istore 4, 2) := by decide +kernel
theorem dX7_readCond_9 : decode cX7_readCond 9 = .ok (.iconst 0, 1) := by decide +kernel
theorem dX7_readCond_10 : decode cX7_readCond 10 = .ok (.istore 5, 2) := by decide +kernel
theorem dX7_readCond_12 : decode cX7_readCond 12 = .ok (.iload 5, 2) := by decide +kernel
theorem dX7_readCond_14 : decode cX7_readCond 14 = .ok (.bipush 20, 2) := by decide +kernel
theorem dX7_readCond_16 : decode cX7_readCond 16 = .ok (.if_icmp .ge 55, 3) := by decide +kernel
theorem dX7_readCond_19 : decode cX7_readCond 19 = .ok (.iload 4, 2) := by decide +kernel
theorem dX7_readCond_21 : decode cX7_readCond 21 = .ok (.ifCond .eq 50, 3) := by decide +kernel
theorem dX7_readCond_24 : decode cX7_readCond 24 = .ok (.aload_n 1, 1) := by decide +kernel
theorem dX7_readCond_25 : decode cX7_readCond 25 = .ok (.getfield 57, 3) := by decide +kernel
theorem dX7_readCond_28 : decode cX7_readCond 28 = .ok (.bipush 17, 2) := by decide +kernel
theorem dX7_readCond_30 : decode cX7_readCond 30 = .ok (.if_icmp .ne 41, 3) := by decide +kernel
theorem dX7_readCond_33 : decode cX7_readCond 33 = .ok (.aload_n 1, 1) := by decide +kernel
theorem dX7_readCond_34 : decode cX7_readCond 34 = .ok (.invokevirtual 60, 3) := by decide +kernel
theorem dX7_readCond_37 : decode cX7_readCond 37 = .ok (.aload_n 0, 1) := by decide +kernel
theorem dX7_readCond_38 : decode cX7_readCond 38 = .ok (.aload_n 1, 1) := by decide +kernel
theorem dX7_readCond_39 : decode cX7_readCond 39 = .ok (.aload_n 2, 1) := by decide +kernel
theorem dX7_readCond_40 : decode cX7_readCond 40 = .ok (.iload_n 3, 1) := by decide +kernel
theorem dX7_readCond_41 : decode cX7_readCond 41 = .ok (.invokevirtual 54, 3) := by decide +kernel
theorem dX7_readCond_44 : decode cX7_readCond 44 = .ok (.ifCond .eq 18, 3) := by decide +kernel
theorem dX7_readCond_47 : decode cX7_readCond 47 = .ok (.aload_n 0, 1) := by decide +kernel
theorem dX7_readCond_48 : decode cX7_readCond 48 = .ok (.bipush 17, 2) := by decide +kernel
theorem dX7_readCond_50 : decode cX7_readCond 50 = .ok (.iconst 0, 1) := by decide +kernel
theorem dX7_readCond_51 : decode cX7_readCond 51 = .ok (.iconst 0, 1) := by decide +kernel
theorem dX7_readCond_52 : decode cX7_readCond 52 = .ok (.invokevirtual 63, 3) := by decide +kernel
theorem dX7_readCond_55 : decode cX7_readCond 55 = .ok (.ifCond .eq 7, 3) := by decide +kernel
theorem dX7_readCond_58 : decode cX7_readCond 58 = .ok (.iconst 1, 1) := by decide +kernel
theorem dX7_readCond_59 : decode cX7_readCond 59 = .ok (.goto 4, 3) := by decide +kernel
theorem dX7_readCond_62 : decode cX7_readCond 62 = .ok (.iconst 0, 1) := by decide +kernel
theorem dX7_readCond_63 : decode cX7_readCond 63 = .ok (.istore 4, 2) := by decide +kernel
theorem dX7_readCond_65 : decode cX7_readCond 65 = .ok (.iinc 5 1, 3) := by decide +kernel
theorem dX7_readCond_68 : decode cX7_readCond 68 = .ok (.goto (-56), 3) := by decide +kernel
theorem dX7_readCond_71 : decode cX7_readCond 71 = .ok (.iload 4, 2) := by decide +kernel
theorem dX7_readCond_73 : decode cX7_readCond 73 = .ok (.ireturn, 1) := by decide +kernel
theorem dX7_readOne_0 : decode cX7_readOne 0 = .ok (.aload_n 1, 1) := by decide +kernel
theorem dX7_readOne_1 : decode cX7_readOne 1 = .ok (.getfield 57, 3) := by decide +kernel
theorem dX7_readOne_4 : decode cX7_readOne 4 = .ok (.istore 4, 2) := by decide +kernel
theorem dX7_readOne_6 : decode cX7_readOne 6 = .ok (.iload 4, 2) := by decide +kernel
theorem dX7_readOne_8 : decode cX7_readOne 8 = .ok (.invokestatic 70, 3) := by decide +kernel
theorem dX7_readOne_11 : decode cX7_readOne 11 = .ok (.ifCond .ne 9, 3) := by decide +kernel
theorem dX7_readOne_14 : decode cX7_readOne 14 = .ok (.aload_n 1, 1) := by decide +kernel
theorem dX7_readOne_15 : decode cX7_readOne 15 = .ok (.iconst 1, 1) := by decide +kernel
theorem dX7_readOne_16 : decode cX7_readOne 16 = .ok (.invokevirtual 73, 3) := by decide +kernel
theorem dX7_readOne_19 : decode cX7_readOne 19 = .ok (.ireturn, 1) := by decide +kernel
theorem dX7_readOne_20 : decode cX7_readOne 20 = .ok (.aload_n 0, 1) := by decide +kernel
theorem dX7_readOne_21 : decode cX7_readOne 21 = .ok (.getfield 28, 3) := by decide +kernel
theorem dX7_readOne_24 : decode cX7_readOne 24 = .ok (.bipush 20, 2) := by decide +kernel
theorem dX7_readOne_26 : decode cX7_readOne 26 = .ok (.if_icmp .ge 9, 3) := by decide +kernel
theorem dX7_readOne_29 : decode cX7_readOne 29 = .ok (.iload_n 3, 1) := by decide +kernel
theorem dX7_readOne_30 : decode cX7_readOne 30 = .ok (.bipush 8, 2) := by decide +kernel
theorem dX7_readOne_32 : decode cX7_readOne 32 = .ok (.if_icmp .le 9, 3) := by decide +kernel
theorem dX7_readOne_35 : decode cX7_readOne 35 = .ok (.aload_n 1, 1) := by decide +kernel
theorem dX7_readOne_36 : decode cX7_readOne 36 = .ok (.iconst 4, 1) := by decide +kernel
theorem dX7_readOne_37 : decode cX7_readOne 37 = .ok (.invokevirtual 73, 3) := by decide +kernel
theorem dX7_readOne_40 : decode cX7_readOne 40 = .ok (.ireturn, 1) := by decide +kernel
theorem dX7_readOne_41 : decode cX7_readOne 41 = .ok (.aload_n 0, 1) := by decide +kernel
theorem dX7_readOne_42 : decode cX7_readOne 42 = .ok (.dup, 1) := by decide +kernel
theorem dX7_readOne_43 : decode cX7_readOne 43 = .ok (.getfield 28, 3) := by decide +kernel
theorem dX7_readOne_46 : decode cX7_readOne 46 = .ok (.iconst 1, 1) := by decide +kernel
theorem dX7_readOne_47 : decode cX7_readOne 47 = .ok (.iadd, 1) := by decide +kernel
theorem dX7_readOne_48 : decode cX7_readOne 48 = .ok (.putfield 28, 3) := by decide +kernel
theorem dX7_readOne_51 : decode cX7_readOne 51 = .ok (.aload_n 1, 1) := by decide +kernel
theorem dX7_readOne_52 : decode cX7_readOne 52 = .ok (.invokevirtual 60, 3) := by decide +kernel
theorem dX7_readOne_55 : decode cX7_readOne 55 = .ok (.iload 4, 2) := by decide +kernel
theorem dX7_readOne_57 : decode cX7_readOne 57 = .ok (.bipush 40, 2) := by decide +kernel
theorem dX7_readOne_59 : decode cX7_readOne 59 = .ok (.if_icmp .ne 30, 3) := by decide +kernel
theorem dX7_readOne_62 : decode cX7_readOne 62 = .ok (.aload_n 0, 1) := by decide +kernel
theorem dX7_readOne_63 : decode cX7_readOne 63 = .ok (.aload_n 1, 1) := by decide +kernel
theorem dX7_readOne_64 : decode cX7_readOne 64 = .ok (.aload_n 2, 1) := by decide +kernel
theorem dX7_readOne_65 : decode cX7_readOne 65 = .ok (.iload_n 3, 1) := by decide +kernel
theorem dX7_readOne_66 : decode cX7_readOne 66 = .ok (.iconst 1, 1) := by decide +kernel
theorem dX7_readOne_67 : decode cX7_readOne 67 = .ok (.iadd, 1) := by decide +kernel
theorem dX7_readOne_68 : decode cX7_readOne 68 = .ok (.invokevirtual 46, 3) := by decide +kernel
theorem dX7_readOne_71 : decode cX7_readOne 71 = .ok (.ifCond .eq 16, 3) := by decide +kernel
theorem dX7_readOne_87 : decode cX7_readOne 87 = .ok (.iconst 0, 1) := by decide +kernel
theorem dX7_readOne_88 : decode cX7_readOne 88 = .ok (.ireturn, 1) := by decide +kernel
theorem dX7_readOne_89 : decode cX7_readOne 89 = .ok (.iload 4, 2) := by decide +kernel
theorem dX7_readOne_91 : decode cX7_readOne 91 = .ok (.bipush 19, 2) := by decide +kernel
theorem dX7_readOne_93 : decode cX7_readOne 93 = .ok (.if_icmp .ne 32, 3) := by decide +kernel
theorem dX7_readOne_96 : decode cX7_readOne 96 = .ok (.aload_n 0, 1) := by decide +kernel
theorem dX7_readOne_97 : decode cX7_readOne 97 = .ok (.aload_n 1, 1) := by decide +kernel
theorem dX7_readOne_98 : decode cX7_readOne 98 = .ok (.aload_n 2, 1) := by decide +kernel
theorem dX7_readOne_99 : decode cX7_readOne 99 = .ok (.iload_n 3, 1) := by decide +kernel
theorem dX7_readOne_100 : decode cX7_readOne 100 = .ok (.iconst 1, 1) := by decide +kernel
theorem dX7_readOne_101 : decode cX7_readOne 101 = .ok (.iadd, 1) := by decide +kernel
theorem dX7_readOne_102 : decode cX7_readOne 102 = .ok (.invokevirtual 67, 3) := by decide +kernel
theorem dX7_readOne_105 : decode cX7_readOne 105 = .ok (.ifCond .eq 18, 3) := by decide +kernel
theorem dX7_readOne_123 : decode cX7_readOne 123 = .ok (.iconst 0, 1) := by decide +kernel
theorem dX7_readOne_124 : decode cX7_readOne 124 = .ok (.ireturn, 1) := by decide +kernel
theorem dX7_readOne_125 : decode cX7_readOne 125 = .ok (.aload_n 0, 1) := by decide +kernel
theorem dX7_readOne_126 : decode cX7_readOne 126 = .ok (.aload_n 1, 1) := by decide +kernel
theorem dX7_readOne_127 : decode cX7_readOne 127 = .ok (.aload_n 2, 1) := by decide +kernel
theorem dX7_readOne_128 : decode cX7_readOne 128 = .ok (.iload 4, 2) := by decide +kernel
theorem dX7_readOne_130 : decode cX7_readOne 130 = .ok (.invokevirtual 76, 3) := by decide +kernel
theorem dX7_readOne_133 : decode cX7_readOne 133 = .ok (.ireturn, 1) := by decide +kernel
theorem dX7_readPlainOne_0 : decode cX7_readPlainOne 0 = .ok (.iload_n 3, 1) := by decide +kernel
theorem dX7_readPlainOne_1 : decode cX7_readPlainOne 1 = .ok (.iconst 5, 1) := by decide +kernel
theorem dX7_readPlainOne_2 : decode cX7_readPlainOne 2 = .ok (.if_icmp .ne 40, 3) := by decide +kernel
theorem dX7_readPlainOne_5 : decode cX7_readPlainOne 5 = .ok (.aload_n 1, 1) := by decide +kernel
theorem dX7_readPlainOne_6 : decode cX7_readPlainOne 6 = .ok (.aload_n 2, 1) := by decide +kernel
theorem dX7_readPlainOne_7 : decode cX7_readPlainOne 7 = .ok (.aload_n 1, 1) := by decide +kernel
theorem dX7_readPlainOne_8 : decode cX7_readPlainOne 8 = .ok (.getfield 79, 3) := by decide +kernel
theorem dX7_readPlainOne_11 : decode cX7_readPlainOne 11 = .ok (.invokevirtual 83, 3) := by decide +kernel
theorem dX7_readPlainOne_14 : decode cX7_readPlainOne 14 = .ok (.invokevirtual 89, 3) := by decide +kernel
theorem dX7_readPlainOne_17 : decode cX7_readPlainOne 17 = .ok (.istore 4, 2) := by decide +kernel
theorem dX7_readPlainOne_19 : decode cX7_readPlainOne 19 = .ok (.iload 4, 2) := by decide +kernel
theorem dX7_readPlainOne_21 : decode cX7_readPlainOne 21 = .ok (.iconst (-1), 1) := by decide +kernel
theorem dX7_readPlainOne_22 : decode cX7_readPlainOne 22 = .ok (.if_icmp .eq 18, 3) := by decide +kernel
theorem dX7_readPlainOne_25 : decode cX7_readPlainOne 25 = .ok (.aload_n 0, 1) := by decide +kernel
theorem dX7_readPlainOne_26 : decode cX7_readPlainOne 26 = .ok (.iload_n 3, 1) := by decide +kernel
theorem dX7_readPlainOne_27 : decode cX7_readPlainOne 27 = .ok (.iconst 0, 1) := by decide +kernel
theorem dX7_readPlainOne_28 : decode cX7_readPlainOne 28 = .ok (.iload 4, 2) := by decide +kernel
theorem dX7_readPlainOne_30 : decode cX7_readPlainOne 30 = .ok (.invokevirtual 63, 3) := by decide +kernel
theorem dX7_readPlainOne_33 : decode cX7_readPlainOne 33 = .ok (.ifCond .eq 7, 3) := by decide +kernel
theorem dX7_readPlainOne_36 : decode cX7_readPlainOne 36 = .ok (.iconst 1, 1) := by decide +kernel
theorem dX7_readPlainOne_37 : decode cX7_readPlainOne 37 = .ok (.goto 4, 3) := by decide +kernel
theorem dX7_readPlainOne_40 : decode cX7_readPlainOne 40 = .ok (.iconst 0, 1) := by decide +kernel
theorem dX7_readPlainOne_41 : decode cX7_readPlainOne 41 = .ok (.ireturn, 1) := by decide +kernel
theorem dX7_readPlainOne_42 : decode cX7_readPlainOne 42 = .ok (.iload_n 3, 1) := by decide +kernel
theorem dX7_readPlainOne_43 : decode cX7_readPlainOne 43 = .ok (.bipush 23, 2) := by decide +kernel
theorem dX7_readPlainOne_45 : decode cX7_readPlainOne 45 = .ok (.if_icmp .ne 40, 3) := by decide +kernel
theorem dX7_readPlainOne_48 : decode cX7_readPlainOne 48 = .ok (.aload_n 1, 1) := by decide +kernel
theorem dX7_readPlainOne_49 : decode cX7_readPlainOne 49 = .ok (.aload_n 2, 1) := by decide +kernel
theorem dX7_readPlainOne_50 : decode cX7_readPlainOne 50 = .ok (.aload_n 1, 1) := by decide +kernel
theorem dX7_readPlainOne_51 : decode cX7_readPlainOne 51 = .ok (.getfield 79, 3) := by decide +kernel
theorem dX7_readPlainOne_54 : decode cX7_readPlainOne 54 = .ok (.invokevirtual 93, 3) := by decide +kernel
theorem dX7_readPlainOne_57 : decode cX7_readPlainOne 57 = .ok (.invokevirtual 89, 3) := by decide +kernel
theorem dX7_readPlainOne_60 : decode cX7_readPlainOne 60 = .ok (.istore 4, 2) := by decide +kernel
theorem dX7_readPlainOne_62 : decode cX7_readPlainOne 62 = .ok (.iload 4, 2) := by decide +kernel
theorem dX7_readPlainOne_64 : decode cX7_readPlainOne 64 = .ok (.iconst (-1), 1) := by decide +kernel
theorem dX7_readPlainOne_65 : decode cX7_readPlainOne 65 = .ok (.if_icmp .eq 18, 3) := by decide +kernel
theorem dX7_readPlainOne_68 : decode cX7_readPlainOne 68 = .ok (.aload_n 0, 1) := by decide +kernel
theorem dX7_readPlainOne_69 : decode cX7_readPlainOne 69 = .ok (.iload_n 3, 1) := by decide +kernel
theorem dX7_readPlainOne_70 : decode cX7_readPlainOne 70 = .ok (.iconst 0, 1) := by decide +kernel
theorem dX7_readPlainOne_71 : decode cX7_readPlainOne 71 = .ok (.iload 4, 2) := by decide +kernel
theorem dX7_readPlainOne_73 : decode cX7_readPlainOne 73 = .ok (.invokevirtual 63, 3) := by decide +kernel
theorem dX7_readPlainOne_76 : decode cX7_readPlainOne 76 = .ok (.ifCond .eq 7, 3) := by decide +kernel
theorem dX7_readPlainOne_79 : decode cX7_readPlainOne 79 = .ok (.iconst 1, 1) := by decide +kernel
theorem dX7_readPlainOne_80 : decode cX7_readPlainOne 80 = .ok (.goto 4, 3) := by decide +kernel
theorem dX7_readPlainOne_83 : decode cX7_readPlainOne 83 = .ok (.iconst 0, 1) := by decide +kernel
theorem dX7_readPlainOne_84 : decode cX7_readPlainOne 84 = .ok (.ireturn, 1) := by decide +kernel
theorem dX7_readPlainOne_85 : decode cX7_readPlainOne 85 = .ok (.iload_n 3, 1) := by decide +kernel
theorem dX7_readPlainOne_86 : decode cX7_readPlainOne 86 = .ok (.bipush 23, 2) := by decide +kernel
theorem dX7_readPlainOne_88 : decode cX7_readPlainOne 88 = .ok (.if_icmp .ge 11, 3) := by decide +kernel
theorem dX7_readPlainOne_91 : decode cX7_readPlainOne 91 = .ok (.aload_n 0, 1) := by decide +kernel
theorem dX7_readPlainOne_92 : decode cX7_readPlainOne 92 = .ok (.iload_n 3, 1) := by decide +kernel
theorem dX7_readPlainOne_93 : decode cX7_readPlainOne 93 = .ok (.iconst 0, 1) := by decide +kernel
theorem dX7_readPlainOne_94 : decode cX7_readPlainOne 94 = .ok (.iconst 0, 1) := by decide +kernel
theorem dX7_readPlainOne_95 : decode cX7_readPlainOne 95 = .ok (.invokevirtual 63, 3) := by decide +kernel
theorem dX7_readPlainOne_98 : decode cX7_readPlainOne 98 = .ok (.ireturn, 1) := by decide +kernel
theorem dX7_readPlainOne_99 : decode cX7_readPlainOne 99 = .ok (.aload_n 1, 1) := by decide +kernel
theorem dX7_readPlainOne_100 : decode cX7_readPlainOne 100 = .ok (.getfield 57, 3) := by decide +kernel
theorem dX7_readPlainOne_103 : decode cX7_readPlainOne 103 = .ok (.istore 4, 2) := by decide +kernel
theorem dX7_readPlainOne_105 : decode cX7_readPlainOne 105 = .ok (.iload 4, 2) := by decide +kernel
theorem dX7_readPlainOne_107 : decode cX7_readPlainOne 107 = .ok (.bipush 60, 2) := by decide +kernel
theorem dX7_readPlainOne_109 : decode cX7_readPlainOne 109 = .ok (.if_icmp .eq 23, 3) := by decide +kernel
theorem dX7_readPlainOne_112 : decode cX7_readPlainOne 112 = .ok (.iload 4, 2) := by decide +kernel
theorem dX7_readPlainOne_114 : decode cX7_readPlainOne 114 = .ok (.bipush 61, 2) := by decide +kernel
theorem dX7_readPlainOne_116 : decode cX7_readPlainOne 116 = .ok (.if_icmp .eq 16, 3) := by decide +kernel
theorem dX7_readPlainOne_119 : decode cX7_readPlainOne 119 = .ok (.iload 4, 2) := by decide +kernel
theorem dX7_readPlainOne_121 : decode cX7_readPlainOne 121 = .ok (.bipush 62, 2) := by decide +kernel
theorem dX7_readPlainOne_123 : decode cX7_readPlainOne 123 = .ok (.if_icmp .eq 9, 3) := by decide +kernel
theorem dX7_readPlainOne_126 : decode cX7_readPlainOne 126 = .ok (.aload_n 1, 1) := by decide +kernel
theorem dX7_readPlainOne_127 : decode cX7_readPlainOne 127 = .ok (.iconst 1, 1) := by decide +kernel
theorem dX7_readPlainOne_128 : decode cX7_readPlainOne 128 = .ok (.invokevirtual 73, 3) := by decide +kernel
theorem dX7_readPlainOne_131 : decode cX7_readPlainOne 131 = .ok (.ireturn, 1) := by decide +kernel
theorem dX7_readPlainOne_132 : decode cX7_readPlainOne 132 = .ok (.aload_n 1, 1) := by decide +kernel
theorem dX7_readPlainOne_133 : decode cX7_readPlainOne 133 = .ok (.invokevirtual 60, 3) := by decide +kernel
theorem dX7_readPlainOne_136 : decode cX7_readPlainOne 136 = .ok (.aload_n 1, 1) := by decide +kernel
theorem dX7_readPlainOne_137 : decode cX7_readPlainOne 137 = .ok (.iconst 0, 1) := by decide +kernel
theorem dX7_readPlainOne_138 : decode cX7_readPlainOne 138 = .ok (.sipush 999, 3) := by decide +kernel
theorem dX7_readPlainOne_141 : decode cX7_readPlainOne 141 = .ok (.invokevirtual 96, 3) := by decide +kernel
theorem dX7_readPlainOne_144 : decode cX7_readPlainOne 144 = .ok (.istore 5, 2) := by decide +kernel
theorem dX7_readPlainOne_146 : decode cX7_readPlainOne 146 = .ok (.iload 5, 2) := by decide +kernel
theorem dX7_readPlainOne_148 : decode cX7_readPlainOne 148 = .ok (.iconst (-1), 1) := by decide +kernel
theorem dX7_readPlainOne_149 : decode cX7_readPlainOne 149 = .ok (.if_icmp .eq 19, 3) := by decide +kernel
theorem dX7_readPlainOne_152 : decode cX7_readPlainOne 152 = .ok (.aload_n 0, 1) := by decide +kernel
theorem dX7_readPlainOne_153 : decode cX7_readPlainOne 153 = .ok (.iload_n 3, 1) := by decide +kernel
theorem dX7_readPlainOne_154 : decode cX7_readPlainOne 154 = .ok (.iload 4, 2) := by decide +kernel
theorem dX7_readPlainOne_156 : decode cX7_readPlainOne 156 = .ok (.iload 5, 2) := by decide +kernel
theorem dX7_readPlainOne_158 : decode cX7_readPlainOne 158 = .ok (.invokevirtual 63, 3) := by decide +kernel
theorem dX7_readPlainOne_161 : decode cX7_readPlainOne 161 = .ok (.ifCond .eq 7, 3) := by decide +kernel
theorem dX7_readPlainOne_164 : decode cX7_readPlainOne 164 = .ok (.iconst 1, 1) := by decide +kernel
theorem dX7_readPlainOne_165 : decode cX7_readPlainOne 165 = .ok (.goto 4, 3) := by decide +kernel
theorem dX7_readPlainOne_168 : decode cX7_readPlainOne 168 = .ok (.iconst 0, 1) := by decide +kernel
theorem dX7_readPlainOne_169 : decode cX7_readPlainOne 169 = .ok (.ireturn, 1) := by decide +kernel
theorem rc_m1000 : Rg (-1000) (-1000) (-1000) := ⟨by decide, by decide⟩
theorem rc_m2 : Rg (-2) (-2) (-2) := ⟨by decide, by decide⟩
theorem rc_17 : Rg 17 17 17 := ⟨by decide, by decide⟩
theorem rc_18 : Rg 18 18 18 := ⟨by decide, by decide⟩
theorem rc_19 : Rg 19 19 19 := ⟨by decide, by decide⟩
theorem rc_23 : Rg 23 23 23 := ⟨by decide, by decide⟩
theorem rc_27 : Rg 27 27 27 := ⟨by decide, by decide⟩
theorem rc_400 : Rg 400 400 400 := ⟨by decide, by decide⟩
theorem rc_999 : Rg 999 999 999 := ⟨by decide, by decide⟩
set_option maxRecDepth 100000 in
set_option maxHeartbeats 8000000 in
theorem c_X0_readLine {l : Launch} {D : va_G} {cy : Nat → ClassId} {L : List Nat} {κ ln : Nat → Nat} {R : Nat → Nat → Option Nat} {I : Nat → Nat → Int32} {J : Nat → Nat → Int64} {ow : Nat → Nat × Nat} (W9 : ∀ a ∈ L, Shp L κ ln R ow a) {x : Nat} (hLx : x ∈ L) (hkx : κ x = 0) {a0 : Nat} (hLa0 : a0 ∈ L) (hka0 : κ a0 = 10) {a1 : Nat} (hLa1 : a1 ∈ L) (hka1 : κ a1 = 8) (hU : Iv L κ R ow I) : CtI l yX0_readLine cX0_readLine 5 (some .boolean) { frames := 3, cells := 0, slots := 0, locals := 70 } D cy L κ ln R I J [.ref x, .ref a0, .ref a1] (fun r I2 J2 => Iv L κ R ow I2 ∧ Fq L κ ow [1007, 1008, 1009, 1011, 1012, 10000, 10100, 10200, 10300] I I2 ∧ Fq L κ ow [1010] J J2 ∧ Rg 0 1 r ∧ (¬ r = 0 → bk_ R I2 x (I2 x 4).toNatClampNeg) ∧ (¬ r = 0 → Rg 0 39 (I2 x 4))) := by
  refine CtI.of (by decide +kernel) (Nat.le_of_ble_eq_true rfl) ?_
  intro p e s m below meth c B K
  have C := B.1
  have hF : Fq L κ ow [1007, 1008, 1009, 1011, 1012, 10000, 10100, 10200, 10300] I I := fq_rf
  have hG : Fq L κ ow [1010] J J := fq_rf
  obtain ⟨b_1, hb_1, hb_1L, hb_1k, hb_1n, hb_1o⟩ := shp_a (W9 x hLx) hkx 1 14 40 rfl (by decide)
  refine g_lo (is := [0, 1, 2]) (lo2 := [(0, .ref x), (1, .ref a0), (2, .ref a1)]) rfl ?_
  have j_68 : ∀ (I_2 : Nat → Nat → Int32) (J_3 : Nat → Nat → Int64) (hU_4 : Iv L κ R ow I_2) (hF_5 : Fq L κ ow [1007, 1008, 1009, 1011, 1012, 10000, 10100, 10200, 10300] I I_2) (hG_6 : Fq L κ ow [1010] J J_3) (v_7 : Int32) (rv_7 : Rg 0 1 v_7) (v_8 : Int32) (rv_8 : Rg (-1) 6 v_8) (v_9 : Int32) (rv_9 : Rg 16 100 v_9) (q_10 : I_2 a0 8 = v_9), WG p l e { frames := 3, cells := 0, slots := 0, locals := 70 } s m ([.ref x, .ref a0, .ref a1] : List Value).toArray below meth c 5 0 0 (MQ below (Qi_ D cy L κ ln R (fun r I2 J2 => Iv L κ R ow I2 ∧ Fq L κ ow [1007, 1008, 1009, 1011, 1012, 10000, 10100, 10200, 10300] I I2 ∧ Fq L κ ow [1010] J J2 ∧ Rg 0 1 r ∧ (¬ r = 0 → bk_ R I2 x (I2 x 4).toNatClampNeg) ∧ (¬ r = 0 → Rg 0 39 (I2 x 4)))) ([.ref x, .ref a0, .ref a1] : List Value).toArray s 0 0 (Al_ L)) D cy (Al_ L) s.heap L κ ln R I_2 J_3 68 [(0, .ref x), (1, .ref a0), (2, .ref a1), (3, .int v_7), (4, .int v_8)] [] := by
    intro I_2 J_3 hU_4 hF_5 hG_6 v_7 rv_7 v_8 rv_8 v_9 rv_9 q_10
    refine g_aload_n C 0 dX0_readLine_68 rfl rfl ?_
    obtain ⟨x_11, hx_11, rx_11⟩ := ex_get (I := I_2) (a := x) (j := 4) (lo := 0) (hi := 40) hU_4.1 hLx (ro_o hkx (by decide)) rfl
    refine g_getI C K hLx hkx f_0_24 (v := x_11) hx_11 dX0_readLine_69 ?_
    refine g_bipush C (v := 40) dX0_readLine_72 (by decide) ?_
    refine g_icmp_lt C (tgt := 83) dX0_readLine_74 (by decide) (fun h_12 => ?_) (fun h_12 => ?_)
    · skip
      have r_13 := lt_l (hi := 39) (h_12) rx_11 rc_40 (by decide)
      refine g_aload_n C 0 dX0_readLine_83 rfl rfl ?_
      refine g_getR C K hLx hkx f_0_15 hb_1 dX0_readLine_84 ?_
      refine g_aload_n C 0 dX0_readLine_87 rfl rfl ?_
      refine g_getI C K hLx hkx f_0_24 (v := x_11) hx_11 dX0_readLine_88 ?_
      refine g_iload C 4 dX0_readLine_91 rfl ?_
      refine h_iast C K hb_1L hb_1k (x_11.toNatClampNeg) (rfl) (ix_0 r_13 (by decide)) (ix_lt r_13 (by decide) hb_1n (by decide)) dX0_readLine_93 (fun I_14 hI_14 => ?_)
      have hU_15 := iv_row W9 hU_4 (uv_put hU_4.1 hI_14 (ro_a hb_1k (by decide) hb_1o hkx rfl) (lo := (-1)) (hi := 6) (rfl) (rv_8)) hI_14 (ro_a hb_1k (by decide) hb_1o hkx rfl) hb_1o (by decide) hx_11 rfl
      have hF_16 := fq_puta hF_5 hI_14 (ro_a hb_1k (by decide) hb_1o hkx rfl) (by decide) (by decide)
      refine g_iload_n C 3 dX0_readLine_94 rfl rfl ?_
      refine g_if_eq C (tgt := 102) dX0_readLine_95 (by decide) (fun h_17 => ?_) (fun h_17 => ?_)
      · skip
        have r_18 := (⟨(rv_7).1, (eq_rg (h_17) rc_0).2⟩ : Rg 0 0 v_7)
        refine g_aload_n C 0 dX0_readLine_102 rfl rfl ?_
        refine g_aload_n C 1 dX0_readLine_103 rfl rfl ?_
        refine g_aload_n C 2 dX0_readLine_104 rfl rfl ?_
        refine g_callVI C K (c_X0_readAct W9 hLx hkx hLa0 hka0 hLa1 hka1  hU_15  (eq_rg (kp_k (κ := κ) hI_14 (by rw [hkx, hb_1k]; decide) hx_11) (r_13))) hLx hkx (by decide) rfl v_0_74 rfl ⟨rfl, rfl⟩ ⟨Nat.le_of_ble_eq_true rfl, Nat.le_of_ble_eq_true rfl⟩ (Nat.le_of_ble_eq_true rfl) ⟨Nat.le_of_ble_eq_true rfl, Nat.le_of_ble_eq_true rfl⟩ dX0_readLine_105 rfl (st := []) (fun x_19 I_20 J_21 h_22 => ?_)
        obtain ⟨hUI_20, hFI_20, hGJ_21, rx_19, ex_19⟩ := h_22
        have hF_23 := fq_tr hF_16 hFI_20 (by decide)
        have hG_24 := fq_tr hG_6 hGJ_21 (by decide)
        refine g_if_eq C (tgt := 124) dX0_readLine_108 (by decide) (fun h_25 => ?_) (fun h_25 => ?_)
        · skip
          have r_26 := (⟨(rx_19).1, (eq_rg (h_25) rc_0).2⟩ : Rg 0 0 x_19)
          refine g_iconst C (v := 0) dX0_readLine_124 (by decide) ?_
          exact g_zret (ty := .boolean) (r := 0) B K rfl (rfl) ⟨hUI_20, hF_23, hG_24, rg_w rc_0 (by decide) (by decide), (fun q => absurd rfl q), (fun q => absurd rfl q)⟩ dX0_readLine_125
        · skip
          have n_27 : ¬ x_19 = 0 := h_25
          have r_28 := ne_lo (lo := 1) n_27 rx_19 rc_0 rfl (by decide)
          refine g_aload_n C 1 dX0_readLine_111 rfl rfl ?_
          refine g_bipush C (v := 59) dX0_readLine_112 (by decide) ?_
          refine g_callVI C K (c_X10_take W9 hLa0 hka0 59 (rg_w rc_59 (by decide) (by decide)) hUI_20) hLa0 hka0 (by decide) rfl v_0_77 rfl ⟨rfl, rfl⟩ ⟨Nat.le_of_ble_eq_true rfl, Nat.le_of_ble_eq_true rfl⟩ (Nat.le_of_ble_eq_true rfl) ⟨Nat.le_of_ble_eq_true rfl, Nat.le_of_ble_eq_true rfl⟩ dX0_readLine_114 rfl (st := []) (fun x_29 I_30 J_31 h_32 => ?_)
          obtain ⟨hUI_30, hFI_30, hGJ_31, rx_29, fx_29⟩ := h_32
          have hF_33 := fq_tr hF_23 hFI_30 (by decide)
          have hG_34 := fq_tr hG_24 hGJ_31 (by decide)
          refine g_if_eq C (tgt := 124) dX0_readLine_117 (by decide) (fun h_35 => ?_) (fun h_35 => ?_)
          · skip
            have r_36 := (⟨(rx_29).1, (eq_rg (h_35) rc_0).2⟩ : Rg 0 0 x_29)
            refine g_iconst C (v := 0) dX0_readLine_124 (by decide) ?_
            exact g_zret (ty := .boolean) (r := 0) B K rfl (rfl) ⟨hUI_30, hF_33, hG_34, rg_w rc_0 (by decide) (by decide), (fun q => absurd rfl q), (fun q => absurd rfl q)⟩ dX0_readLine_125
          · skip
            have n_37 : ¬ x_29 = 0 := h_35
            have r_38 := ne_lo (lo := 1) n_37 rx_29 rc_0 rfl (by decide)
            refine g_iconst C (v := 1) dX0_readLine_120 (by decide) ?_
            refine g_goto C (tgt := 125) dX0_readLine_121 (by decide) ?_
            exact g_zret (ty := .boolean) (r := 1) B K rfl (rfl) ⟨hUI_30, hF_33, hG_34, rg_w rc_1 (by decide) (by decide), (fun _ => (bk_fq W9 hLx hkx (ex_19 (rg_nz r_28 (by decide))) hFI_30 (by decide))), (fun _ => eq_rg (fq_at hFI_30 hLx hkx (by decide) (by decide) (fq_at hFI_20 hLx hkx (by decide) (by decide) (kp_k (κ := κ) hI_14 (by rw [hkx, hb_1k]; decide) hx_11))) (r_13))⟩ dX0_readLine_125
      · skip
        have n_39 : ¬ v_7 = 0 := h_17
        have r_40 := ne_lo (lo := 1) n_39 rv_7 rc_0 rfl (by decide)
        refine g_aload_n C 1 dX0_readLine_98 rfl rfl ?_
        refine g_callVV C K (c_X10_advance W9 hLa0 hka0   hU_15) hLa0 hka0 (by decide) rfl v_0_71 rfl ⟨rfl, rfl⟩ ⟨Nat.le_of_ble_eq_true rfl, Nat.le_of_ble_eq_true rfl⟩ (Nat.le_of_ble_eq_true rfl) ⟨Nat.le_of_ble_eq_true rfl, Nat.le_of_ble_eq_true rfl⟩ dX0_readLine_99 rfl (st := []) (fun I_42 J_43 h_44 => ?_)
        obtain ⟨hUI_42, hFI_42, hGJ_43, fx_41⟩ := h_44
        have hF_45 := fq_tr hF_16 hFI_42 (by decide)
        have hG_46 := fq_tr hG_6 hGJ_43 (by decide)
        refine g_aload_n C 0 dX0_readLine_102 rfl rfl ?_
        refine g_aload_n C 1 dX0_readLine_103 rfl rfl ?_
        refine g_aload_n C 2 dX0_readLine_104 rfl rfl ?_
        refine g_callVI C K (c_X0_readAct W9 hLx hkx hLa0 hka0 hLa1 hka1  hUI_42  (eq_rg (fq_at hFI_42 hLx hkx (by decide) (by decide) (kp_k (κ := κ) hI_14 (by rw [hkx, hb_1k]; decide) hx_11)) (r_13))) hLx hkx (by decide) rfl v_0_74 rfl ⟨rfl, rfl⟩ ⟨Nat.le_of_ble_eq_true rfl, Nat.le_of_ble_eq_true rfl⟩ (Nat.le_of_ble_eq_true rfl) ⟨Nat.le_of_ble_eq_true rfl, Nat.le_of_ble_eq_true rfl⟩ dX0_readLine_105 rfl (st := []) (fun x_47 I_48 J_49 h_50 => ?_)
        obtain ⟨hUI_48, hFI_48, hGJ_49, rx_47, ex_47⟩ := h_50
        have hF_51 := fq_tr hF_45 hFI_48 (by decide)
        have hG_52 := fq_tr hG_46 hGJ_49 (by decide)
        refine g_if_eq C (tgt := 124) dX0_readLine_108 (by decide) (fun h_53 => ?_) (fun h_53 => ?_)
        · skip
          have r_54 := (⟨(rx_47).1, (eq_rg (h_53) rc_0).2⟩ : Rg 0 0 x_47)
          refine g_iconst C (v := 0) dX0_readLine_124 (by decide) ?_
          exact g_zret (ty := .boolean) (r := 0) B K rfl (rfl) ⟨hUI_48, hF_51, hG_52, rg_w rc_0 (by decide) (by decide), (fun q => absurd rfl q), (fun q => absurd rfl q)⟩ dX0_readLine_125
        · skip
          have n_55 : ¬ x_47 = 0 := h_53
          have r_56 := ne_lo (lo := 1) n_55 rx_47 rc_0 rfl (by decide)
          refine g_aload_n C 1 dX0_readLine_111 rfl rfl ?_
          refine g_bipush C (v := 59) dX0_readLine_112 (by decide) ?_
          refine g_callVI C K (c_X10_take W9 hLa0 hka0 59 (rg_w rc_59 (by decide) (by decide)) hUI_48) hLa0 hka0 (by decide) rfl v_0_77 rfl ⟨rfl, rfl⟩ ⟨Nat.le_of_ble_eq_true rfl, Nat.le_of_ble_eq_true rfl⟩ (Nat.le_of_ble_eq_true rfl) ⟨Nat.le_of_ble_eq_true rfl, Nat.le_of_ble_eq_true rfl⟩ dX0_readLine_114 rfl (st := []) (fun x_57 I_58 J_59 h_60 => ?_)
          obtain ⟨hUI_58, hFI_58, hGJ_59, rx_57, fx_57⟩ := h_60
          have hF_61 := fq_tr hF_51 hFI_58 (by decide)
          have hG_62 := fq_tr hG_52 hGJ_59 (by decide)
          refine g_if_eq C (tgt := 124) dX0_readLine_117 (by decide) (fun h_63 => ?_) (fun h_63 => ?_)
          · skip
            have r_64 := (⟨(rx_57).1, (eq_rg (h_63) rc_0).2⟩ : Rg 0 0 x_57)
            refine g_iconst C (v := 0) dX0_readLine_124 (by decide) ?_
            exact g_zret (ty := .boolean) (r := 0) B K rfl (rfl) ⟨hUI_58, hF_61, hG_62, rg_w rc_0 (by decide) (by decide), (fun q => absurd rfl q), (fun q => absurd rfl q)⟩ dX0_readLine_125
          · skip
            have n_65 : ¬ x_57 = 0 := h_63
            have r_66 := ne_lo (lo := 1) n_65 rx_57 rc_0 rfl (by decide)
            refine g_iconst C (v := 1) dX0_readLine_120 (by decide) ?_
            refine g_goto C (tgt := 125) dX0_readLine_121 (by decide) ?_
            exact g_zret (ty := .boolean) (r := 1) B K rfl (rfl) ⟨hUI_58, hF_61, hG_62, rg_w rc_1 (by decide) (by decide), (fun _ => (bk_fq W9 hLx hkx (ex_47 (rg_nz r_56 (by decide))) hFI_58 (by decide))), (fun _ => eq_rg (fq_at hFI_58 hLx hkx (by decide) (by decide) (fq_at hFI_48 hLx hkx (by decide) (by decide) (fq_at hFI_42 hLx hkx (by decide) (by decide) (kp_k (κ := κ) hI_14 (by rw [hkx, hb_1k]; decide) hx_11)))) (r_13))⟩ dX0_readLine_125
    · skip
      have r_67 := le_r (nlt h_12) rc_40 rx_11
      refine g_aload_n C 1 dX0_readLine_77 rfl rfl ?_
      refine g_iconst C (v := 4) dX0_readLine_78 (by decide) ?_
      refine g_callVI C K (c_X10_fail W9 hLa0 hka0 4 (rg_w rc_4 (by decide) (by decide)) hU_4) hLa0 hka0 (by decide) rfl v_0_57 rfl ⟨rfl, rfl⟩ ⟨Nat.le_of_ble_eq_true rfl, Nat.le_of_ble_eq_true rfl⟩ (Nat.le_of_ble_eq_true rfl) ⟨Nat.le_of_ble_eq_true rfl, Nat.le_of_ble_eq_true rfl⟩ dX0_readLine_79 rfl (st := []) (fun x_68 I_69 J_70 h_71 => ?_)
      obtain ⟨hUI_69, hFI_69, hGJ_70, rx_68, fx_68⟩ := h_71
      have hF_72 := fq_tr hF_5 hFI_69 (by decide)
      have hG_73 := fq_tr hG_6 hGJ_70 (by decide)
      exact g_zret (ty := .boolean) (r := x_68) B K rfl (nar_z (rg_w rx_68 (by decide) (by decide))) ⟨hUI_69, hF_72, hG_73, rg_w rx_68 (by decide) (by decide), (fun q => ne_no q rx_68 rc_0), (fun q => ne_no q rx_68 rc_0)⟩ dX0_readLine_82
  have j_34 : ∀ (I_74 : Nat → Nat → Int32) (J_75 : Nat → Nat → Int64) (hU_76 : Iv L κ R ow I_74) (hF_77 : Fq L κ ow [1007, 1008, 1009, 1011, 1012, 10000, 10100, 10200, 10300] I I_74) (hG_78 : Fq L κ ow [1010] J J_75) (v_79 : Int32) (rv_79 : Rg 0 1 v_79) (v_80 : Int32) (rv_80 : Rg 16 100 v_80) (q_81 : I_74 a0 8 = v_80), WG p l e { frames := 3, cells := 0, slots := 0, locals := 70 } s m ([.ref x, .ref a0, .ref a1] : List Value).toArray below meth c 5 0 0 (MQ below (Qi_ D cy L κ ln R (fun r I2 J2 => Iv L κ R ow I2 ∧ Fq L κ ow [1007, 1008, 1009, 1011, 1012, 10000, 10100, 10200, 10300] I I2 ∧ Fq L κ ow [1010] J J2 ∧ Rg 0 1 r ∧ (¬ r = 0 → bk_ R I2 x (I2 x 4).toNatClampNeg) ∧ (¬ r = 0 → Rg 0 39 (I2 x 4)))) ([.ref x, .ref a0, .ref a1] : List Value).toArray s 0 0 (Al_ L)) D cy (Al_ L) s.heap L κ ln R I_74 J_75 34 [(0, .ref x), (1, .ref a0), (2, .ref a1), (3, .int v_79)] [] := by
    intro I_74 J_75 hU_76 hF_77 hG_78 v_79 rv_79 v_80 rv_80 q_81
    refine g_iload_n C 3 dX0_readLine_34 rfl rfl ?_
    refine g_if_eq C (tgt := 49) dX0_readLine_35 (by decide) (fun h_82 => ?_) (fun h_82 => ?_)
    · skip
      have r_83 := (⟨(rv_79).1, (eq_rg (h_82) rc_0).2⟩ : Rg 0 0 v_79)
      refine g_iconst C (v := (-1)) dX0_readLine_49 (by decide) ?_
      refine g_istore C dX0_readLine_50 (by decide) (lo2 := [(4, .int (-1)), (0, .ref x), (1, .ref a0), (2, .ref a1), (3, .int v_79)]) rfl ?_
      refine g_iload_n C 4 dX0_readLine_52 rfl rfl ?_
      refine g_if_eq C (tgt := 68) dX0_readLine_53 (by decide) (fun h_84 => ?_) (fun h_84 => ?_)
      · skip
        refine g_lo (is := [1, 2, 3, 4, 0]) (lo2 := [(0, .ref x), (1, .ref a0), (2, .ref a1), (3, .int v_79), (4, .int (-1))]) rfl ?_
        exact j_68 I_74 J_75 hU_76 hF_77 hG_78 v_79 (rg_w r_83 (by decide) (by decide)) (-1) (rg_w rc_m1 (by decide) (by decide)) v_80 (rv_80) q_81
      · skip
        exact ne_no (h_84) r_83 rc_0
    · skip
      have n_85 : ¬ v_79 = 0 := h_82
      have r_86 := ne_lo (lo := 1) n_85 rv_79 rc_0 rfl (by decide)
      refine g_aload_n C 2 dX0_readLine_38 rfl rfl ?_
      refine g_aload_n C 1 dX0_readLine_39 rfl rfl ?_
      obtain ⟨y_87, hy_87⟩ : ∃ z, J_75 a0 10 = z := ⟨_, rfl⟩
      refine g_getJ C K hLa0 hka0 f_0_61 (v := y_87) hy_87 dX0_readLine_40 ?_
      refine g_callVI C K (c_X8_personNamed W9 hLa1 hka1 y_87  hU_76) hLa1 hka1 (by decide) rfl v_0_65 rfl ⟨rfl, rfl⟩ ⟨Nat.le_of_ble_eq_true rfl, Nat.le_of_ble_eq_true rfl⟩ (Nat.le_of_ble_eq_true rfl) ⟨Nat.le_of_ble_eq_true rfl, Nat.le_of_ble_eq_true rfl⟩ dX0_readLine_43 rfl (st := []) (fun x_88 I_89 J_90 h_91 => ?_)
      obtain ⟨rfl, rfl, rx_88, fx_88⟩ := h_91
      refine g_goto C (tgt := 50) dX0_readLine_46 (by decide) ?_
      refine g_istore C dX0_readLine_50 (by decide) (lo2 := [(4, .int x_88), (0, .ref x), (1, .ref a0), (2, .ref a1), (3, .int v_79)]) rfl ?_
      refine g_iload_n C 4 dX0_readLine_52 rfl rfl ?_
      refine g_if_eq C (tgt := 68) dX0_readLine_53 (by decide) (fun h_92 => ?_) (fun h_92 => ?_)
      · skip
        exact eq_no (h_92) r_86 rc_0 (by decide)
      · skip
        have n_93 : ¬ v_79 = 0 := h_92
        refine g_iload C 0 dX0_readLine_56 rfl ?_
        refine g_iconst C (v := (-1)) dX0_readLine_58 (by decide) ?_
        refine g_icmp_ne C (tgt := 68) dX0_readLine_59 (by decide) (fun h_94 => ?_) (fun h_94 => ?_)
        · skip
          have n_95 : ¬ x_88 = (-1) := h_94
          have r_96 := ne_lo (lo := 0) n_95 rx_88 rc_m1 rfl (by decide)
          refine g_lo (is := [1, 2, 3, 4, 0]) (lo2 := [(0, .ref x), (1, .ref a0), (2, .ref a1), (3, .int v_79), (4, .int x_88)]) rfl ?_
          exact j_68 I_74 J_75 hU_76 hF_77 hG_78 v_79 (rg_w r_86 (by decide) (by decide)) x_88 (rg_w r_96 (by decide) (by decide)) v_80 (rv_80) q_81
        · skip
          have r_97 := (⟨(rx_88).1, (eq_rg (h_94) rc_m1).2⟩ : Rg (-1) (-1) x_88)
          refine g_aload_n C 2 dX0_readLine_62 rfl rfl ?_
          refine g_iconst C (v := 3) dX0_readLine_63 (by decide) ?_
          refine g_callVI C K (c_X10_fail W9 hLa0 hka0 3 (rg_w rc_3 (by decide) (by decide)) hU_76) hLa0 hka0 (by decide) rfl v_0_57 rfl ⟨rfl, rfl⟩ ⟨Nat.le_of_ble_eq_true rfl, Nat.le_of_ble_eq_true rfl⟩ (Nat.le_of_ble_eq_true rfl) ⟨Nat.le_of_ble_eq_true rfl, Nat.le_of_ble_eq_true rfl⟩ dX0_readLine_64 rfl (st := []) (fun x_98 I_99 J_100 h_101 => ?_)
          obtain ⟨hUI_99, hFI_99, hGJ_100, rx_98, fx_98⟩ := h_101
          have hF_102 := fq_tr hF_77 hFI_99 (by decide)
          have hG_103 := fq_tr hG_78 hGJ_100 (by decide)
          exact g_zret (ty := .boolean) (r := x_98) B K rfl (nar_z (rg_w rx_98 (by decide) (by decide))) ⟨hUI_99, hF_102, hG_103, rg_w rx_98 (by decide) (by decide), (fun q => ne_no q rx_98 rc_0), (fun q => ne_no q rx_98 rc_0)⟩ dX0_readLine_67
  refine g_aload_n C 1 dX0_readLine_0 rfl rfl ?_
  obtain ⟨x_104, hx_104, rx_104⟩ := ex_get (I := I) (a := a0) (j := 8) (lo := (-2147483648)) (hi := 2147483647) hU.1 hLa0 (ro_o hka0 (by decide)) rfl
  refine g_getI C K hLa0 hka0 f_0_50 (v := x_104) hx_104 dX0_readLine_1 ?_
  refine g_bipush C (v := 100) dX0_readLine_4 (by decide) ?_
  refine g_icmp_ne C (tgt := 13) dX0_readLine_6 (by decide) (fun h_105 => ?_) (fun h_105 => ?_)
  · skip
    have n_106 : ¬ x_104 = 100 := h_105
    refine g_iconst C (v := 0) dX0_readLine_13 (by decide) ?_
    refine g_istore_n C dX0_readLine_14 rfl (by decide) (lo2 := [(3, .int 0), (0, .ref x), (1, .ref a0), (2, .ref a1)]) rfl ?_
    refine g_iload_n C 0 dX0_readLine_15 rfl rfl ?_
    refine g_if_ne C (tgt := 34) dX0_readLine_16 (by decide) (fun h_107 => ?_) (fun h_107 => ?_)
    · skip
      exact absurd (h_107) (by decide)
    · skip
      refine g_aload_n C 2 dX0_readLine_19 rfl rfl ?_
      refine g_getI C K hLa0 hka0 f_0_50 (v := x_104) hx_104 dX0_readLine_20 ?_
      refine g_bipush C (v := 16) dX0_readLine_23 (by decide) ?_
      refine g_icmp_eq C (tgt := 34) dX0_readLine_25 (by decide) (fun h_108 => ?_) (fun h_108 => ?_)
      · skip
        have r_109 := (⟨(eq_rg (h_108) rc_16).1, (eq_rg (h_108) rc_16).2⟩ : Rg 16 16 x_104)
        refine g_lo (is := [1, 2, 3, 0]) (lo2 := [(0, .ref x), (1, .ref a0), (2, .ref a1), (3, .int 0)]) rfl ?_
        exact j_34 I J hU hF hG 0 (rg_w rc_0 (by decide) (by decide)) x_104 (rg_w r_109 (by decide) (by decide)) hx_104
      · skip
        have n_110 : ¬ x_104 = 16 := h_108
        refine g_aload_n C 2 dX0_readLine_28 rfl rfl ?_
        refine g_iconst C (v := 1) dX0_readLine_29 (by decide) ?_
        refine g_callVI C K (c_X10_fail W9 hLa0 hka0 1 (rg_w rc_1 (by decide) (by decide)) hU) hLa0 hka0 (by decide) rfl v_0_57 rfl ⟨rfl, rfl⟩ ⟨Nat.le_of_ble_eq_true rfl, Nat.le_of_ble_eq_true rfl⟩ (Nat.le_of_ble_eq_true rfl) ⟨Nat.le_of_ble_eq_true rfl, Nat.le_of_ble_eq_true rfl⟩ dX0_readLine_30 rfl (st := []) (fun x_111 I_112 J_113 h_114 => ?_)
        obtain ⟨hUI_112, hFI_112, hGJ_113, rx_111, fx_111⟩ := h_114
        have hF_115 := fq_tr hF hFI_112 (by decide)
        have hG_116 := fq_tr hG hGJ_113 (by decide)
        exact g_zret (ty := .boolean) (r := x_111) B K rfl (nar_z (rg_w rx_111 (by decide) (by decide))) ⟨hUI_112, hF_115, hG_116, rg_w rx_111 (by decide) (by decide), (fun q => ne_no q rx_111 rc_0), (fun q => ne_no q rx_111 rc_0)⟩ dX0_readLine_33
  · skip
    have r_117 := (⟨(eq_rg (h_105) rc_100).1, (eq_rg (h_105) rc_100).2⟩ : Rg 100 100 x_104)
    refine g_iconst C (v := 1) dX0_readLine_9 (by decide) ?_
    refine g_goto C (tgt := 14) dX0_readLine_10 (by decide) ?_
    refine g_istore_n C dX0_readLine_14 rfl (by decide) (lo2 := [(3, .int 1), (0, .ref x), (1, .ref a0), (2, .ref a1)]) rfl ?_
    refine g_iload_n C 0 dX0_readLine_15 rfl rfl ?_
    refine g_if_ne C (tgt := 34) dX0_readLine_16 (by decide) (fun h_118 => ?_) (fun h_118 => ?_)
    · skip
      refine g_lo (is := [1, 2, 3, 0]) (lo2 := [(0, .ref x), (1, .ref a0), (2, .ref a1), (3, .int 1)]) rfl ?_
      exact j_34 I J hU hF hG 1 (rg_w rc_1 (by decide) (by decide)) x_104 (rg_w r_117 (by decide) (by decide)) hx_104
    · skip
      exact absurd (h_118) (by decide)
set_option maxRecDepth 100000 in
set_option maxHeartbeats 8000000 in
theorem c_X0_readFrom {l : Launch} {D : va_G} {cy : Nat → ClassId} {L : List Nat} {κ ln : Nat → Nat} {R : Nat → Nat → Option Nat} {I : Nat → Nat → Int32} {J : Nat → Nat → Int64} {ow : Nat → Nat × Nat} (W9 : ∀ a ∈ L, Shp L κ ln R ow a) {x : Nat} (hLx : x ∈ L) (hkx : κ x = 0) {a0 : Nat} (hLa0 : a0 ∈ L) (hka0 : κ a0 = 10) {a1 : Nat} (hLa1 : a1 ∈ L) (hka1 : κ a1 = 8) (hU : Iv L κ R ow I) : CtV l yX0_readFrom cX0_readFrom 3 none { frames := 4, cells := 0, slots := 0, locals := 94 } D cy L κ ln R I J [.ref x, .ref a0, .ref a1] (fun I2 J2 => Iv L κ R ow I2 ∧ Fq L κ ow [4, 1006, 1007, 1008, 1009, 1011, 1012, 10000, 10100, 10200, 10300, 70200, 70300] I I2 ∧ Fq L κ ow [1010, 70400] J J2) := by
  refine CtV.of (by decide +kernel) (Nat.le_of_ble_eq_true rfl) ?_
  intro p e s m below meth c B K
  have C := B.1
  have hF : Fq L κ ow [4, 1006, 1007, 1008, 1009, 1011, 1012, 10000, 10100, 10200, 10300, 70200, 70300] I I := fq_rf
  have hG : Fq L κ ow [1010, 70400] J J := fq_rf
  refine g_lo (is := [0, 1, 2]) (lo2 := [(0, .ref x), (1, .ref a0), (2, .ref a1)]) rfl ?_
  have l_12 : ∀ (n_12 : Nat) (I_1 : Nat → Nat → Int32) (J_2 : Nat → Nat → Int64) (hU_3 : Iv L κ R ow I_1) (hF_4 : Fq L κ ow [4, 1006, 1007, 1008, 1009, 1011, 1012, 10000, 10100, 10200, 10300, 70200, 70300] I I_1) (hG_5 : Fq L κ ow [1010, 70400] J J_2) (v_6 : Int32) (rv_6 : Rg 0 40 v_6) (q_7 : I_1 x 4 = v_6) (hm_8 : 40 < (v_6 : Int32).toInt + (n_12 : Int)), WG p l e { frames := 4, cells := 0, slots := 0, locals := 94 } s m ([.ref x, .ref a0, .ref a1] : List Value).toArray below meth c 3 0 0 (MQ below (Qv_ D cy L κ ln R (fun I2 J2 => Iv L κ R ow I2 ∧ Fq L κ ow [4, 1006, 1007, 1008, 1009, 1011, 1012, 10000, 10100, 10200, 10300, 70200, 70300] I I2 ∧ Fq L κ ow [1010, 70400] J J2)) ([.ref x, .ref a0, .ref a1] : List Value).toArray s 0 0 (Al_ L)) D cy (Al_ L) s.heap L κ ln R I_1 J_2 12 [(0, .ref x), (1, .ref a0), (2, .ref a1)] [] := by
    intro n_12
    induction n_12 with
    | zero =>
      intro I_1 J_2 hU_3 hF_4 hG_5 v_6 rv_6 q_7 hm_8
      exact ms_0 rv_6 hm_8
    | succ n_12 ih_12 =>
      intro I_1 J_2 hU_3 hF_4 hG_5 v_6 rv_6 q_7 hm_8
      refine g_aload_n C 0 dX0_readFrom_12 rfl rfl ?_
      refine g_getI C K hLx hkx f_0_24 (v := v_6) q_7 dX0_readFrom_13 ?_
      refine g_bipush C (v := 40) dX0_readFrom_16 (by decide) ?_
      refine g_icmp_gt C (tgt := 52) dX0_readFrom_18 (by decide) (fun h_9 => ?_) (fun h_9 => ?_)
      · skip
        have r_10 := lt_r (lo := 41) (h_9) rc_40 rv_6 (by decide)
        exact rg_no r_10 (by decide)
      · skip
        refine g_aload_n C 1 dX0_readFrom_21 rfl rfl ?_
        obtain ⟨x_11, hx_11, rx_11⟩ := ex_get (I := I_1) (a := a0) (j := 8) (lo := (-2147483648)) (hi := 2147483647) hU_3.1 hLa0 (ro_o hka0 (by decide)) rfl
        refine g_getI C K hLa0 hka0 f_0_50 (v := x_11) hx_11 dX0_readFrom_22 ?_
        refine g_bipush C (v := 102) dX0_readFrom_25 (by decide) ?_
        refine g_icmp_eq C (tgt := 52) dX0_readFrom_27 (by decide) (fun h_12 => ?_) (fun h_12 => ?_)
        · skip
          have r_13 := (⟨(eq_rg (h_12) rc_102).1, (eq_rg (h_12) rc_102).2⟩ : Rg 102 102 x_11)
          exact g_vret B K rfl ⟨hU_3, hF_4, hG_5⟩ dX0_readFrom_52
        · skip
          have n_14 : ¬ x_11 = 102 := h_12
          refine g_aload_n C 0 dX0_readFrom_30 rfl rfl ?_
          refine g_aload_n C 1 dX0_readFrom_31 rfl rfl ?_
          refine g_aload_n C 2 dX0_readFrom_32 rfl rfl ?_
          refine g_callVI C K (c_X0_readLine W9 hLx hkx hLa0 hka0 hLa1 hka1  hU_3) hLx hkx (by decide) rfl v_0_53 rfl ⟨rfl, rfl⟩ ⟨Nat.le_of_ble_eq_true rfl, Nat.le_of_ble_eq_true rfl⟩ (Nat.le_of_ble_eq_true rfl) ⟨Nat.le_of_ble_eq_true rfl, Nat.le_of_ble_eq_true rfl⟩ dX0_readFrom_33 rfl (st := []) (fun x_15 I_16 J_17 h_18 => ?_)
          obtain ⟨hUI_16, hFI_16, hGJ_17, rx_15, ex_15⟩ := h_18
          have hF_19 := fq_tr hF_4 hFI_16 (by decide)
          have hG_20 := fq_tr hG_5 hGJ_17 (by decide)
          have q_21 := (fq_at hFI_16 hLx hkx (by decide) (by decide) q_7)
          refine g_if_eq C (tgt := 52) dX0_readFrom_36 (by decide) (fun h_22 => ?_) (fun h_22 => ?_)
          · skip
            have r_23 := (⟨(rx_15).1, (eq_rg (h_22) rc_0).2⟩ : Rg 0 0 x_15)
            exact g_vret B K rfl ⟨hUI_16, hF_19, hG_20⟩ dX0_readFrom_52
          · skip
            have n_24 : ¬ x_15 = 0 := h_22
            have r_25 := ne_lo (lo := 1) n_24 rx_15 rc_0 rfl (by decide)
            have r_26 := rg_i rv_6 (eq_rg q_21.symm ((ex_15.2) n_24)) (lo := 0) (hi := 39) (by decide) (by decide)
            refine g_aload_n C 0 dX0_readFrom_39 rfl rfl ?_
            refine g_dup C dX0_readFrom_40 rfl ?_
            refine g_getI C K hLx hkx f_0_24 (v := v_6) (fq_at hFI_16 hLx hkx (by decide) (by decide) q_7) dX0_readFrom_41 ?_
            refine g_iconst C (v := 1) dX0_readFrom_44 (by decide) ?_
            obtain ⟨x_27, hx_27, rx_27, tx_27⟩ := ex_add 1 40 r_26 rc_1 (by decide) (by decide) (by decide) (by decide)
            refine g_iadd C (v := x_27) dX0_readFrom_45 hx_27 ?_
            refine h_putI C K hLx hkx f_0_24 p_0_4 dX0_readFrom_46 (fun I_28 hI_28 => ?_)
            have hU_29 := iv_len1 W9 hUI_16 (uv_put hUI_16.1 hI_28 (ro_o hkx (by decide)) (lo := 0) (hi := 40) (rfl) (rg_w rx_27 (by decide) (by decide))) hLx hkx hI_28 (fq_at hFI_16 hLx hkx (by decide) (by decide) q_7) (r_26) (ti_k tx_27 rc_1) (ex_15.1 (rg_nz r_25 (by decide)))
            have hF_30 := fq_puto hF_19 hI_28 hkx (by decide) (by decide)
            refine g_goto C (tgt := 12) dX0_readFrom_49 (by decide) ?_
            refine g_lo (is := [0, 1, 2]) (lo2 := [(0, .ref x), (1, .ref a0), (2, .ref a1)]) rfl ?_
            exact ih_12 I_28 J_17 hU_29 hF_30 hG_20 x_27 (rg_w rx_27 (by decide) (by decide)) (kp_s hI_28) (ms_1 hm_8 (ti_k tx_27 rc_1) (by decide))
  refine g_aload_n C 1 dX0_readFrom_0 rfl rfl ?_
  refine g_sipush C (v := 400) dX0_readFrom_1 (by decide) ?_
  refine g_callVV C K (c_X10_begin W9 hLa0 hka0 400 (rg_w rc_400 (by decide) (by decide)) hU) hLa0 hka0 (by decide) rfl v_0_44 rfl ⟨rfl, rfl⟩ ⟨Nat.le_of_ble_eq_true rfl, Nat.le_of_ble_eq_true rfl⟩ (Nat.le_of_ble_eq_true rfl) ⟨Nat.le_of_ble_eq_true rfl, Nat.le_of_ble_eq_true rfl⟩ dX0_readFrom_4 rfl (st := []) (fun I_32 J_33 h_34 => ?_)
  obtain ⟨hUI_32, hFI_32, hGJ_33, fx_31⟩ := h_34
  have hF_35 := fq_tr hF hFI_32 (by decide)
  have hG_36 := fq_tr hG hGJ_33 (by decide)
  refine g_aload_n C 0 dX0_readFrom_7 rfl rfl ?_
  refine g_iconst C (v := 0) dX0_readFrom_8 (by decide) ?_
  refine h_putI C K hLx hkx f_0_24 p_0_4 dX0_readFrom_9 (fun I_37 hI_37 => ?_)
  have hU_38 := iv_len0 W9 hUI_32 (uv_put hUI_32.1 hI_37 (ro_o hkx (by decide)) (lo := 0) (hi := 40) (rfl) (rg_w rc_0 (by decide) (by decide))) hLx hkx hI_37
  have hF_39 := fq_puto hF_35 hI_37 hkx (by decide) (by decide)
  refine g_lo (is := [0, 1, 2]) (lo2 := [(0, .ref x), (1, .ref a0), (2, .ref a1)]) rfl ?_
  exact l_12 41 I_37 J_33 hU_38 hF_39 hG_36 0 (rg_w rc_0 (by decide) (by decide)) (kp_s hI_37) (ms_s (a := 0) (b := 40) (N := 41) (rg_w rc_0 (by decide) (by decide)) (by decide))
set_option maxRecDepth 100000 in
set_option maxHeartbeats 8000000 in
theorem c_X11_book {l : Launch} {D : va_G} {cy : Nat → ClassId} {L : List Nat} {κ ln : Nat → Nat} {R : Nat → Nat → Option Nat} {I : Nat → Nat → Int32} {J : Nat → Nat → Int64} {ow : Nat → Nat × Nat} (W9 : ∀ a ∈ L, Shp L κ ln R ow a) {x : Nat} (hLx : x ∈ L) (hkx : κ x = 11) (a0 : Int32) (hU : Iv L κ R ow I) : CtI l yX11_book cX11_book 2 (some .int) { frames := 6, cells := 0, slots := 0, locals := 170 } D cy L κ ln R I J [.ref x, .int a0] (fun r I2 J2 => Iv L κ R ow I2 ∧ Fq L κ ow [4, 5, 6, 7, 8, 9, 107, 108, 109, 110, 111, 112, 501, 502, 1005, 1006, 1007, 1008, 1009, 1011, 1012, 10000, 10100, 10200, 10300, 16100, 16200, 16300, 16400, 16500, 16600, 70200, 70300] I I2 ∧ Fq L κ ow [1010, 70400] J J2 ∧ Rg (-2147483648) 2147483647 r) := by
  refine CtI.of (by decide +kernel) (Nat.le_of_ble_eq_true rfl) ?_
  intro p e s m below meth c B K
  have C := B.1
  have hF : Fq L κ ow [4, 5, 6, 7, 8, 9, 107, 108, 109, 110, 111, 112, 501, 502, 1005, 1006, 1007, 1008, 1009, 1011, 1012, 10000, 10100, 10200, 10300, 16100, 16200, 16300, 16400, 16500, 16600, 70200, 70300] I I := fq_rf
  have hG : Fq L κ ow [1010, 70400] J J := fq_rf
  obtain ⟨b_1, hb_1, hb_1L, hb_1k⟩ := shp_o (W9 x hLx) hkx 3 1 rfl (by decide)
  obtain ⟨b_2, hb_2, hb_2L, hb_2k⟩ := shp_o (W9 x hLx) hkx 4 5 rfl (by decide)
  obtain ⟨b_3, hb_3, hb_3L, hb_3k⟩ := shp_o (W9 x hLx) hkx 6 0 rfl (by decide)
  obtain ⟨b_4, hb_4, hb_4L, hb_4k⟩ := shp_o (W9 x hLx) hkx 2 1 rfl (by decide)
  obtain ⟨b_5, hb_5, hb_5L, hb_5k⟩ := shp_o (W9 x hLx) hkx 1 8 rfl (by decide)
  obtain ⟨b_6, hb_6, hb_6L, hb_6k⟩ := shp_o (W9 x hLx) hkx 0 10 rfl (by decide)
  refine g_lo (is := [0, 1]) (lo2 := [(0, .ref x), (1, .int a0)]) rfl ?_
  have j_113 : ∀ (I_7 : Nat → Nat → Int32) (J_8 : Nat → Nat → Int64) (hU_9 : Iv L κ R ow I_7) (hF_10 : Fq L κ ow [4, 5, 6, 7, 8, 9, 107, 108, 109, 110, 111, 112, 501, 502, 1005, 1006, 1007, 1008, 1009, 1011, 1012, 10000, 10100, 10200, 10300, 16100, 16200, 16300, 16400, 16500, 16600, 70200, 70300] I I_7) (hG_11 : Fq L κ ow [1010, 70400] J J_8) (v_12 : Int32) (rv_12 : Rg 0 1 v_12) (v_13 : Int32) (rv_13 : Rg 0 0 v_13) (q_14 : I_7 b_6 11 = v_13) (q_15 : I_7 b_6 5 = 0), WG p l e { frames := 6, cells := 0, slots := 0, locals := 170 } s m ([.ref x, .int a0] : List Value).toArray below meth c 2 0 0 (MQ below (Qi_ D cy L κ ln R (fun r I2 J2 => Iv L κ R ow I2 ∧ Fq L κ ow [4, 5, 6, 7, 8, 9, 107, 108, 109, 110, 111, 112, 501, 502, 1005, 1006, 1007, 1008, 1009, 1011, 1012, 10000, 10100, 10200, 10300, 16100, 16200, 16300, 16400, 16500, 16600, 70200, 70300] I I2 ∧ Fq L κ ow [1010, 70400] J J2 ∧ Rg (-2147483648) 2147483647 r)) ([.ref x, .int a0] : List Value).toArray s 0 0 (Al_ L)) D cy (Al_ L) s.heap L κ ln R I_7 J_8 113 [(0, .ref x), (1, .int v_12)] [] := by
    intro I_7 J_8 hU_9 hF_10 hG_11 v_12 rv_12 v_13 rv_13 q_14 q_15
    refine g_aload_n C 0 dX11_book_113 rfl rfl ?_
    refine g_getR C K hLx hkx f_11_52 hb_3 dX11_book_114 ?_
    obtain ⟨x_16, hx_16, rx_16⟩ := ex_get (I := I_7) (a := b_3) (j := 6) (lo := (-2147483648)) (hi := 2147483647) hU_9.1 hb_3L (ro_o hb_3k (by decide)) rfl
    refine g_getI C K hb_3L hb_3k f_11_346 (v := x_16) hx_16 dX11_book_117 ?_
    refine g_if_ne C (tgt := 127) dX11_book_120 (by decide) (fun h_17 => ?_) (fun h_17 => ?_)
    · skip
      have n_18 : ¬ x_16 = 0 := h_17
      refine g_aload_n C 0 dX11_book_127 rfl rfl ?_
      refine g_getR C K hLx hkx f_11_52 hb_3 dX11_book_128 ?_
      obtain ⟨x_19, hx_19, rx_19⟩ := ex_get (I := I_7) (a := b_3) (j := 7) (lo := 0) (hi := 40) hU_9.1 hb_3L (ro_o hb_3k (by decide)) rfl
      refine g_getI C K hb_3L hb_3k f_11_349 (v := x_19) hx_19 dX11_book_131 ?_
      exact g_zret (ty := .int) (r := x_19) B K rfl (rfl) ⟨hU_9, hF_10, hG_11, rg_all _⟩ dX11_book_134
    · skip
      have r_20 := (⟨(eq_rg (h_17) rc_0).1, (eq_rg (h_17) rc_0).2⟩ : Rg 0 0 x_16)
      refine g_iconst C (v := (-1)) dX11_book_123 (by decide) ?_
      refine g_goto C (tgt := 134) dX11_book_124 (by decide) ?_
      exact g_zret (ty := .int) (r := (-1)) B K rfl (rfl) ⟨hU_9, hF_10, hG_11, rg_all _⟩ dX11_book_134
  have j_13 : ∀ (I_21 : Nat → Nat → Int32) (J_22 : Nat → Nat → Int64) (hU_23 : Iv L κ R ow I_21) (hF_24 : Fq L κ ow [4, 5, 6, 7, 8, 9, 107, 108, 109, 110, 111, 112, 501, 502, 1005, 1006, 1007, 1008, 1009, 1011, 1012, 10000, 10100, 10200, 10300, 16100, 16200, 16300, 16400, 16500, 16600, 70200, 70300] I I_21) (hG_25 : Fq L κ ow [1010, 70400] J J_22) (v_26 : Int32) (rv_26 : Rg 0 1 v_26), WG p l e { frames := 6, cells := 0, slots := 0, locals := 170 } s m ([.ref x, .int a0] : List Value).toArray below meth c 2 0 0 (MQ below (Qi_ D cy L κ ln R (fun r I2 J2 => Iv L κ R ow I2 ∧ Fq L κ ow [4, 5, 6, 7, 8, 9, 107, 108, 109, 110, 111, 112, 501, 502, 1005, 1006, 1007, 1008, 1009, 1011, 1012, 10000, 10100, 10200, 10300, 16100, 16200, 16300, 16400, 16500, 16600, 70200, 70300] I I2 ∧ Fq L κ ow [1010, 70400] J J2 ∧ Rg (-2147483648) 2147483647 r)) ([.ref x, .int a0] : List Value).toArray s 0 0 (Al_ L)) D cy (Al_ L) s.heap L κ ln R I_21 J_22 13 [(0, .ref x), (1, .int v_26)] [] := by
    intro I_21 J_22 hU_23 hF_24 hG_25 v_26 rv_26
    refine g_aload_n C 0 dX11_book_13 rfl rfl ?_
    refine g_getR C K hLx hkx f_11_52 hb_3 dX11_book_14 ?_
    refine g_aload_n C 0 dX11_book_17 rfl rfl ?_
    refine g_getR C K hLx hkx f_11_10 hb_6 dX11_book_18 ?_
    refine g_aload_n C 0 dX11_book_21 rfl rfl ?_
    refine g_getR C K hLx hkx f_11_19 hb_5 dX11_book_22 ?_
    refine g_callVV C K (c_X0_readFrom W9 hb_3L hb_3k hb_6L hb_6k hb_5L hb_5k  hU_23) hb_3L hb_3k (by decide) rfl v_11_340 rfl ⟨rfl, rfl⟩ ⟨Nat.le_of_ble_eq_true rfl, Nat.le_of_ble_eq_true rfl⟩ (Nat.le_of_ble_eq_true rfl) ⟨Nat.le_of_ble_eq_true rfl, Nat.le_of_ble_eq_true rfl⟩ dX11_book_25 rfl (st := []) (fun I_28 J_29 h_30 => ?_)
    obtain ⟨hUI_28, hFI_28, hGJ_29⟩ := h_30
    have hF_31 := fq_tr hF_24 hFI_28 (by decide)
    have hG_32 := fq_tr hG_25 hGJ_29 (by decide)
    refine g_aload_n C 0 dX11_book_28 rfl rfl ?_
    refine g_getR C K hLx hkx f_11_10 hb_6 dX11_book_29 ?_
    refine g_iconst C (v := 0) dX11_book_32 (by decide) ?_
    refine h_putI C K hb_6L hb_6k f_11_102 p_10_5 dX11_book_33 (fun I_33 hI_33 => ?_)
    have hU_34 := iv_put W9 hUI_28 hI_33 (ro_o hb_6k (by decide)) (lo := 0) (hi := 940) (rfl) (rg_w rc_0 (by decide) (by decide)) rfl
    have hF_35 := fq_puto hF_31 hI_33 hb_6k (by decide) (by decide)
    refine g_aload_n C 0 dX11_book_36 rfl rfl ?_
    refine g_getR C K hLx hkx f_11_10 hb_6 dX11_book_37 ?_
    obtain ⟨x_36, hx_36, rx_36⟩ := ex_get (I := I_33) (a := b_6) (j := 11) (lo := (-2147483648)) (hi := 2147483647) hU_34.1 hb_6L (ro_o hb_6k (by decide)) rfl
    refine g_getI C K hb_6L hb_6k f_11_113 (v := x_36) hx_36 dX11_book_40 ?_
    refine g_if_eq C (tgt := 57) dX11_book_43 (by decide) (fun h_37 => ?_) (fun h_37 => ?_)
    · skip
      have r_38 := (⟨(eq_rg (h_37) rc_0).1, (eq_rg (h_37) rc_0).2⟩ : Rg 0 0 x_36)
      refine g_aload_n C 0 dX11_book_57 rfl rfl ?_
      refine g_getR C K hLx hkx f_11_32 hb_1 dX11_book_58 ?_
      refine g_aload_n C 0 dX11_book_61 rfl rfl ?_
      refine g_getR C K hLx hkx f_11_28 hb_4 dX11_book_62 ?_
      refine g_callVV C K (c_X1_become W9 hb_1L hb_1k hb_4L hb_4k  hU_34) hb_1L hb_1k (by decide) rfl v_11_126 rfl ⟨rfl, rfl⟩ ⟨Nat.le_of_ble_eq_true rfl, Nat.le_of_ble_eq_true rfl⟩ (Nat.le_of_ble_eq_true rfl) ⟨Nat.le_of_ble_eq_true rfl, Nat.le_of_ble_eq_true rfl⟩ dX11_book_65 rfl (st := []) (fun I_40 J_41 h_42 => ?_)
      obtain ⟨hUI_40, hFI_40, hGJ_41⟩ := h_42
      have hF_43 := fq_tr hF_35 hFI_40 (by decide)
      have hG_44 := fq_tr hG_32 hGJ_41 (by decide)
      refine g_aload_n C 0 dX11_book_68 rfl rfl ?_
      refine g_getR C K hLx hkx f_11_52 hb_3 dX11_book_69 ?_
      refine g_aload_n C 0 dX11_book_72 rfl rfl ?_
      refine g_getR C K hLx hkx f_11_32 hb_1 dX11_book_73 ?_
      refine g_callVV C K (c_X0_judgeBy W9 hb_3L hb_3k hb_1L hb_1k  hUI_40) hb_3L hb_3k (by decide) rfl v_11_343 rfl ⟨rfl, rfl⟩ ⟨Nat.le_of_ble_eq_true rfl, Nat.le_of_ble_eq_true rfl⟩ (Nat.le_of_ble_eq_true rfl) ⟨Nat.le_of_ble_eq_true rfl, Nat.le_of_ble_eq_true rfl⟩ dX11_book_76 rfl (st := []) (fun I_46 J_47 h_48 => ?_)
      obtain ⟨hUI_46, hFI_46, hGJ_47⟩ := h_48
      have hF_49 := fq_tr hF_43 hFI_46 (by decide)
      have hG_50 := fq_tr hG_44 hGJ_47 (by decide)
      refine g_iload_n C 1 dX11_book_79 rfl rfl ?_
      refine g_iconst C (v := 1) dX11_book_80 (by decide) ?_
      refine g_icmp_ne C (tgt := 113) dX11_book_81 (by decide) (fun h_51 => ?_) (fun h_51 => ?_)
      · skip
        have n_52 : ¬ v_26 = 1 := h_51
        have r_53 := ne_hi (hi := 0) n_52 rv_26 rc_1 rfl (by decide)
        refine g_lo (is := [0, 1]) (lo2 := [(0, .ref x), (1, .int v_26)]) rfl ?_
        exact j_113 I_46 J_47 hUI_46 hF_49 hG_50 v_26 (rg_w r_53 (by decide) (by decide)) x_36 (r_38) (fq_at hFI_46 hb_6L hb_6k (by decide) (by decide) (fq_at hFI_40 hb_6L hb_6k (by decide) (by decide) hx_36)) (fq_at hFI_46 hb_6L hb_6k (by decide) (by decide) (fq_at hFI_40 hb_6L hb_6k (by decide) (by decide) (kp_s hI_33)))
      · skip
        have r_54 := (⟨(eq_rg (h_51) rc_1).1, (rv_26).2⟩ : Rg 1 1 v_26)
        refine g_aload_n C 0 dX11_book_84 rfl rfl ?_
        refine g_getR C K hLx hkx f_11_38 hb_2 dX11_book_85 ?_
        refine g_aload_n C 0 dX11_book_88 rfl rfl ?_
        refine g_getR C K hLx hkx f_11_28 hb_4 dX11_book_89 ?_
        refine g_callVV C K (c_X5_note W9 hb_2L hb_2k hb_4L hb_4k  hUI_46) hb_2L hb_2k (by decide) rfl v_11_225 rfl ⟨rfl, rfl⟩ ⟨Nat.le_of_ble_eq_true rfl, Nat.le_of_ble_eq_true rfl⟩ (Nat.le_of_ble_eq_true rfl) ⟨Nat.le_of_ble_eq_true rfl, Nat.le_of_ble_eq_true rfl⟩ dX11_book_92 rfl (st := []) (fun I_56 J_57 h_58 => ?_)
        obtain ⟨hUI_56, hFI_56, hGJ_57⟩ := h_58
        have hF_59 := fq_tr hF_49 hFI_56 (by decide)
        have hG_60 := fq_tr hG_50 hGJ_57 (by decide)
        refine g_aload_n C 0 dX11_book_95 rfl rfl ?_
        refine g_getR C K hLx hkx f_11_38 hb_2 dX11_book_96 ?_
        refine g_callVV C K (c_X5_keepNoted W9 hb_2L hb_2k   hUI_56) hb_2L hb_2k (by decide) rfl v_11_260 rfl ⟨rfl, rfl⟩ ⟨Nat.le_of_ble_eq_true rfl, Nat.le_of_ble_eq_true rfl⟩ (Nat.le_of_ble_eq_true rfl) ⟨Nat.le_of_ble_eq_true rfl, Nat.le_of_ble_eq_true rfl⟩ dX11_book_99 rfl (st := []) (fun I_62 J_63 h_64 => ?_)
        obtain ⟨hUI_62, hFI_62, hGJ_63⟩ := h_64
        have hF_65 := fq_tr hF_59 hFI_62 (by decide)
        have hG_66 := fq_tr hG_60 hGJ_63 (by decide)
        refine g_aload_n C 0 dX11_book_102 rfl rfl ?_
        refine g_getR C K hLx hkx f_11_28 hb_4 dX11_book_103 ?_
        refine g_aload_n C 0 dX11_book_106 rfl rfl ?_
        refine g_getR C K hLx hkx f_11_32 hb_1 dX11_book_107 ?_
        refine g_callVV C K (c_X1_become W9 hb_4L hb_4k hb_1L hb_1k  hUI_62) hb_4L hb_4k (by decide) rfl v_11_126 rfl ⟨rfl, rfl⟩ ⟨Nat.le_of_ble_eq_true rfl, Nat.le_of_ble_eq_true rfl⟩ (Nat.le_of_ble_eq_true rfl) ⟨Nat.le_of_ble_eq_true rfl, Nat.le_of_ble_eq_true rfl⟩ dX11_book_110 rfl (st := []) (fun I_68 J_69 h_70 => ?_)
        obtain ⟨hUI_68, hFI_68, hGJ_69⟩ := h_70
        have hF_71 := fq_tr hF_65 hFI_68 (by decide)
        have hG_72 := fq_tr hG_66 hGJ_69 (by decide)
        have q_73 := (fq_at hFI_68 hb_6L hb_6k (by decide) (by decide) (fq_at hFI_62 hb_6L hb_6k (by decide) (by decide) (fq_at hFI_56 hb_6L hb_6k (by decide) (by decide) (fq_at hFI_46 hb_6L hb_6k (by decide) (by decide) (fq_at hFI_40 hb_6L hb_6k (by decide) (by decide) hx_36)))))
        have q_74 := (fq_at hFI_68 hb_6L hb_6k (by decide) (by decide) (fq_at hFI_62 hb_6L hb_6k (by decide) (by decide) (fq_at hFI_56 hb_6L hb_6k (by decide) (by decide) (fq_at hFI_46 hb_6L hb_6k (by decide) (by decide) (fq_at hFI_40 hb_6L hb_6k (by decide) (by decide) (kp_s hI_33))))))
        refine g_lo (is := [0, 1]) (lo2 := [(0, .ref x), (1, .int v_26)]) rfl ?_
        exact j_113 I_68 J_69 hUI_68 hF_71 hG_72 v_26 (rg_w r_54 (by decide) (by decide)) x_36 (r_38) q_73 q_74
    · skip
      have n_75 : ¬ x_36 = 0 := h_37
      refine g_bipush C (v := (-2)) dX11_book_46 (by decide) ?_
      refine g_aload_n C 0 dX11_book_48 rfl rfl ?_
      refine g_getR C K hLx hkx f_11_10 hb_6 dX11_book_49 ?_
      obtain ⟨x_76, hx_76, rx_76⟩ := ex_get (I := I_33) (a := b_6) (j := 12) (lo := (-2147483648)) (hi := 2147483647) hU_34.1 hb_6L (ro_o hb_6k (by decide)) rfl
      refine g_getI C K hb_6L hb_6k f_11_116 (v := x_76) hx_76 dX11_book_52 ?_
      obtain ⟨x_77, hx_77, rx_77⟩ := ex_any (z0 := (-2) - x_76)
      refine g_isub C (v := x_77) dX11_book_55 hx_77 ?_
      exact g_zret (ty := .int) (r := x_77) B K rfl (rfl) ⟨hU_34, hF_35, hG_32, rx_77⟩ dX11_book_56
  refine g_iload_n C 1 dX11_book_0 rfl rfl ?_
  refine g_if_eq C (tgt := 13) dX11_book_1 (by decide) (fun h_78 => ?_) (fun h_78 => ?_)
  · skip
    have r_79 := (⟨(eq_rg (h_78) rc_0).1, (eq_rg (h_78) rc_0).2⟩ : Rg 0 0 a0)
    refine g_lo (is := [0, 1]) (lo2 := [(0, .ref x), (1, .int a0)]) rfl ?_
    exact j_13 I J hU hF hG a0 (rg_w r_79 (by decide) (by decide))
  · skip
    have n_80 : ¬ a0 = 0 := h_78
    refine g_iload_n C 1 dX11_book_4 rfl rfl ?_
    refine g_iconst C (v := 1) dX11_book_5 (by decide) ?_
    refine g_icmp_eq C (tgt := 13) dX11_book_6 (by decide) (fun h_81 => ?_) (fun h_81 => ?_)
    · skip
      have r_82 := (⟨(eq_rg (h_81) rc_1).1, (eq_rg (h_81) rc_1).2⟩ : Rg 1 1 a0)
      refine g_lo (is := [0, 1]) (lo2 := [(0, .ref x), (1, .int a0)]) rfl ?_
      exact j_13 I J hU hF hG a0 (rg_w r_82 (by decide) (by decide))
    · skip
      have n_83 : ¬ a0 = 1 := h_81
      refine g_sipush C (v := (-1000)) dX11_book_9 (by decide) ?_
      exact g_zret (ty := .int) (r := (-1000)) B K rfl (rfl) ⟨hU, hF, hG, rg_all _⟩ dX11_book_12
set_option maxRecDepth 100000 in
set_option maxHeartbeats 8000000 in
theorem c_X11_told {l : Launch} {D : va_G} {cy : Nat → ClassId} {L : List Nat} {κ ln : Nat → Nat} {R : Nat → Nat → Option Nat} {I : Nat → Nat → Int32} {J : Nat → Nat → Int64} {ow : Nat → Nat × Nat} (W9 : ∀ a ∈ L, Shp L κ ln R ow a) {x : Nat} (hLx : x ∈ L) (hkx : κ x = 11) (a0 : Int32) (hU : Iv L κ R ow I) : CtI l yX11_told cX11_told 2 (some .int) { frames := 0, cells := 0, slots := 0, locals := 0 } D cy L κ ln R I J [.ref x, .int a0] (fun r I2 J2 => I = I2 ∧ J = J2 ∧ Rg (-2147483648) 2147483647 r) := by
  refine CtI.of (by decide +kernel) (Nat.le_of_ble_eq_true rfl) ?_
  intro p e s m below meth c B K
  have C := B.1
  obtain ⟨b_1, hb_1, hb_1L, hb_1k⟩ := shp_o (W9 x hLx) hkx 6 0 rfl (by decide)
  refine g_lo (is := [0, 1]) (lo2 := [(0, .ref x), (1, .int a0)]) rfl ?_
  refine g_aload_n C 0 dX11_told_0 rfl rfl ?_
  refine g_getR C K hLx hkx f_11_52 hb_1 dX11_told_1 ?_
  obtain ⟨x_2, hx_2, rx_2⟩ := ex_get (I := I) (a := b_1) (j := 5) (lo := 0) (hi := 1) hU.1 hb_1L (ro_o hb_1k (by decide)) rfl
  refine g_getI C K hb_1L hb_1k f_11_352 (v := x_2) hx_2 dX11_told_4 ?_
  refine g_if_ne C (tgt := 12) dX11_told_7 (by decide) (fun h_3 => ?_) (fun h_3 => ?_)
  · skip
    have n_4 : ¬ x_2 = 0 := h_3
    have r_5 := ne_lo (lo := 1) n_4 rx_2 rc_0 rfl (by decide)
    refine g_iload_n C 1 dX11_told_12 rfl rfl ?_
    by_cases c_6 : a0.toInt = 0
    · skip
      have r_7 := rg_of (a := 0) (b := 0) 0 c_6 (by decide) (by decide)
      refine g_tableIn C (tgt := 44) dX11_told_13 (by omega) (by omega) (off := 31) (by rw [c_6]; rfl) (by decide) ?_
      refine g_aload_n C 0 dX11_told_44 rfl rfl ?_
      refine g_getR C K hLx hkx f_11_52 hb_1 dX11_told_45 ?_
      obtain ⟨x_8, hx_8, rx_8⟩ := ex_get (I := I) (a := b_1) (j := 6) (lo := (-2147483648)) (hi := 2147483647) hU.1 hb_1L (ro_o hb_1k (by decide)) rfl
      refine g_getI C K hb_1L hb_1k f_11_346 (v := x_8) hx_8 dX11_told_48 ?_
      exact g_zret (ty := .int) (r := x_8) B K rfl (rfl) ⟨rfl, rfl, rx_8⟩ dX11_told_51
    by_cases c_9 : a0.toInt = 1
    · skip
      have r_10 := rg_of (a := 1) (b := 1) 1 c_9 (by decide) (by decide)
      refine g_tableIn C (tgt := 52) dX11_told_13 (by omega) (by omega) (off := 39) (by rw [c_9]; rfl) (by decide) ?_
      refine g_aload_n C 0 dX11_told_52 rfl rfl ?_
      refine g_getR C K hLx hkx f_11_52 hb_1 dX11_told_53 ?_
      obtain ⟨x_11, hx_11, rx_11⟩ := ex_get (I := I) (a := b_1) (j := 7) (lo := 0) (hi := 40) hU.1 hb_1L (ro_o hb_1k (by decide)) rfl
      refine g_getI C K hb_1L hb_1k f_11_349 (v := x_11) hx_11 dX11_told_56 ?_
      exact g_zret (ty := .int) (r := x_11) B K rfl (rfl) ⟨rfl, rfl, rg_all _⟩ dX11_told_59
    by_cases c_12 : a0.toInt = 2
    · skip
      have r_13 := rg_of (a := 2) (b := 2) 2 c_12 (by decide) (by decide)
      refine g_tableIn C (tgt := 60) dX11_told_13 (by omega) (by omega) (off := 47) (by rw [c_12]; rfl) (by decide) ?_
      refine g_aload_n C 0 dX11_told_60 rfl rfl ?_
      refine g_getR C K hLx hkx f_11_52 hb_1 dX11_told_61 ?_
      obtain ⟨x_14, hx_14, rx_14⟩ := ex_get (I := I) (a := b_1) (j := 8) (lo := (-2147483648)) (hi := 2147483647) hU.1 hb_1L (ro_o hb_1k (by decide)) rfl
      refine g_getI C K hb_1L hb_1k f_11_356 (v := x_14) hx_14 dX11_told_64 ?_
      exact g_zret (ty := .int) (r := x_14) B K rfl (rfl) ⟨rfl, rfl, rx_14⟩ dX11_told_67
    by_cases c_15 : a0.toInt = 3
    · skip
      have r_16 := rg_of (a := 3) (b := 3) 3 c_15 (by decide) (by decide)
      refine g_tableIn C (tgt := 68) dX11_told_13 (by omega) (by omega) (off := 55) (by rw [c_15]; rfl) (by decide) ?_
      refine g_aload_n C 0 dX11_told_68 rfl rfl ?_
      refine g_getR C K hLx hkx f_11_52 hb_1 dX11_told_69 ?_
      obtain ⟨x_17, hx_17, rx_17⟩ := ex_get (I := I) (a := b_1) (j := 9) (lo := (-2147483648)) (hi := 2147483647) hU.1 hb_1L (ro_o hb_1k (by decide)) rfl
      refine g_getI C K hb_1L hb_1k f_11_359 (v := x_17) hx_17 dX11_told_72 ?_
      exact g_zret (ty := .int) (r := x_17) B K rfl (rfl) ⟨rfl, rfl, rx_17⟩ dX11_told_75
    obtain ⟨q_181, q_182⟩ := (rg_all a0)
    refine g_tableOut C (tgt := 76) dX11_told_13 (by omega) (by decide) ?_
    refine g_iconst C (v := (-1)) dX11_told_76 (by decide) ?_
    exact g_zret (ty := .int) (r := (-1)) B K rfl (rfl) ⟨rfl, rfl, rg_all _⟩ dX11_told_77
  · skip
    have r_19 := (⟨(rx_2).1, (eq_rg (h_3) rc_0).2⟩ : Rg 0 0 x_2)
    refine g_iconst C (v := (-1)) dX11_told_10 (by decide) ?_
    exact g_zret (ty := .int) (r := (-1)) B K rfl (rfl) ⟨rfl, rfl, rg_all _⟩ dX11_told_11
set_option maxRecDepth 100000 in
set_option maxHeartbeats 8000000 in
theorem c_X7_become {l : Launch} {D : va_G} {cy : Nat → ClassId} {L : List Nat} {κ ln : Nat → Nat} {R : Nat → Nat → Option Nat} {I : Nat → Nat → Int32} {J : Nat → Nat → Int64} {ow : Nat → Nat × Nat} (W9 : ∀ a ∈ L, Shp L κ ln R ow a) {x : Nat} (hLx : x ∈ L) (hkx : κ x = 7) {a0 : Nat} (hLa0 : a0 ∈ L) (hka0 : κ a0 = 7) (hU : Iv L κ R ow I) : CtV l yX7_become cX7_become 2 none { frames := 1, cells := 0, slots := 0, locals := 60 } D cy L κ ln R I J [.ref x, .ref a0] (fun I2 J2 => Iv L κ R ow I2 ∧ Fq L κ ow [704, 705, 52000, 52100, 52200] I I2 ∧ Fq L κ ow [] J J2) := by
  refine CtV.of (by decide +kernel) (Nat.le_of_ble_eq_true rfl) ?_
  intro p e s m below meth c B K
  have C := B.1
  have hF : Fq L κ ow [704, 705, 52000, 52100, 52200] I I := fq_rf
  have hG : Fq L κ ow [] J J := fq_rf
  obtain ⟨b_1, hb_1, hb_1L, hb_1k, hb_1n, hb_1o⟩ := shp_a (W9 a0 hLa0) hka0 0 14 40 rfl (by decide)
  obtain ⟨b_2, hb_2, hb_2L, hb_2k, hb_2n, hb_2o⟩ := shp_a (W9 a0 hLa0) hka0 1 14 40 rfl (by decide)
  obtain ⟨b_3, hb_3, hb_3L, hb_3k, hb_3n, hb_3o⟩ := shp_a (W9 x hLx) hkx 2 14 40 rfl (by decide)
  obtain ⟨b_4, hb_4, hb_4L, hb_4k, hb_4n, hb_4o⟩ := shp_a (W9 a0 hLa0) hka0 2 14 40 rfl (by decide)
  obtain ⟨b_5, hb_5, hb_5L, hb_5k, hb_5n, hb_5o⟩ := shp_a (W9 x hLx) hkx 1 14 40 rfl (by decide)
  obtain ⟨b_6, hb_6, hb_6L, hb_6k, hb_6n, hb_6o⟩ := shp_a (W9 x hLx) hkx 0 14 40 rfl (by decide)
  have hU0 := hU
  have hU := hU0.1
  refine g_lo (is := [0, 1]) (lo2 := [(0, .ref x), (1, .ref a0)]) rfl ?_
  refine g_aload_n C 1 dX7_become_0 rfl rfl ?_
  refine g_getR C K hLa0 hka0 f_7_11 hb_1 dX7_become_1 ?_
  refine g_iconst C (v := 0) dX7_become_4 (by decide) ?_
  refine g_aload_n C 0 dX7_become_5 rfl rfl ?_
  refine g_getR C K hLx hkx f_7_11 hb_6 dX7_become_6 ?_
  refine g_iconst C (v := 0) dX7_become_9 (by decide) ?_
  refine g_bipush C (v := 40) dX7_become_10 (by decide) ?_
  refine h_copyI C K hb_6L hb_6k hb_1L hb_1k ac_7_31 40 (by decide) (by decide) (by rw [hb_1n]; decide) (by rw [hb_6n]; decide) w_cp (Nat.le_of_ble_eq_true rfl) (Nat.le_of_ble_eq_true rfl) dX7_become_12 (fun I_7 hI_7 => ?_)
  have hU_8 := uv_cp hU hb_1L hI_7 (ro_a hb_6k (by decide) hb_6o hkx rfl) (ro_a hb_1k (by decide) hb_1o hka0 rfl)
  have hF_9 := fq_cp hF hI_7 (ro_a hb_6k (by decide) hb_6o hkx rfl) (by decide) (by decide)
  refine g_aload_n C 1 dX7_become_15 rfl rfl ?_
  refine g_getR C K hLa0 hka0 f_7_15 hb_2 dX7_become_16 ?_
  refine g_iconst C (v := 0) dX7_become_19 (by decide) ?_
  refine g_aload_n C 0 dX7_become_20 rfl rfl ?_
  refine g_getR C K hLx hkx f_7_15 hb_5 dX7_become_21 ?_
  refine g_iconst C (v := 0) dX7_become_24 (by decide) ?_
  refine g_bipush C (v := 40) dX7_become_25 (by decide) ?_
  refine h_copyI C K hb_5L hb_5k hb_2L hb_2k ac_7_31 40 (by decide) (by decide) (by rw [hb_2n]; decide) (by rw [hb_5n]; decide) w_cp (Nat.le_of_ble_eq_true rfl) (Nat.le_of_ble_eq_true rfl) dX7_become_27 (fun I_10 hI_10 => ?_)
  have hU_11 := uv_cp hU_8 hb_2L hI_10 (ro_a hb_5k (by decide) hb_5o hkx rfl) (ro_a hb_2k (by decide) hb_2o hka0 rfl)
  have hF_12 := fq_cp hF_9 hI_10 (ro_a hb_5k (by decide) hb_5o hkx rfl) (by decide) (by decide)
  refine g_aload_n C 1 dX7_become_30 rfl rfl ?_
  refine g_getR C K hLa0 hka0 f_7_18 hb_4 dX7_become_31 ?_
  refine g_iconst C (v := 0) dX7_become_34 (by decide) ?_
  refine g_aload_n C 0 dX7_become_35 rfl rfl ?_
  refine g_getR C K hLx hkx f_7_18 hb_3 dX7_become_36 ?_
  refine g_iconst C (v := 0) dX7_become_39 (by decide) ?_
  refine g_bipush C (v := 40) dX7_become_40 (by decide) ?_
  refine h_copyI C K hb_3L hb_3k hb_4L hb_4k ac_7_31 40 (by decide) (by decide) (by rw [hb_4n]; decide) (by rw [hb_3n]; decide) w_cp (Nat.le_of_ble_eq_true rfl) (Nat.le_of_ble_eq_true rfl) dX7_become_42 (fun I_13 hI_13 => ?_)
  have hU_14 := uv_cp hU_11 hb_4L hI_13 (ro_a hb_3k (by decide) hb_3o hkx rfl) (ro_a hb_4k (by decide) hb_4o hka0 rfl)
  have hF_15 := fq_cp hF_12 hI_13 (ro_a hb_3k (by decide) hb_3o hkx rfl) (by decide) (by decide)
  refine g_aload_n C 0 dX7_become_45 rfl rfl ?_
  refine g_aload_n C 1 dX7_become_46 rfl rfl ?_
  obtain ⟨x_16, hx_16, rx_16⟩ := ex_get (I := I_13) (a := a0) (j := 4) (lo := 0) (hi := 40) hU_14 hLa0 (ro_o hka0 (by decide)) rfl
  refine g_getI C K hLa0 hka0 f_7_24 (v := x_16) hx_16 dX7_become_47 ?_
  refine h_putI C K hLx hkx f_7_24 p_7_4 dX7_become_50 (fun I_17 hI_17 => ?_)
  have hU_18 := uv_put hU_14 hI_17 (ro_o hkx (by decide)) (lo := 0) (hi := 40) (rfl) (rx_16)
  have hF_19 := fq_puto hF_15 hI_17 hkx (by decide) (by decide)
  refine g_aload_n C 0 dX7_become_53 rfl rfl ?_
  refine g_aload_n C 1 dX7_become_54 rfl rfl ?_
  obtain ⟨x_20, hx_20, rx_20⟩ := ex_get (I := I_17) (a := a0) (j := 5) (lo := (-2147483648)) (hi := 2147483647) hU_18 hLa0 (ro_o hka0 (by decide)) rfl
  refine g_getI C K hLa0 hka0 f_7_28 (v := x_20) hx_20 dX7_become_55 ?_
  refine h_putI C K hLx hkx f_7_28 p_7_5 dX7_become_58 (fun I_21 hI_21 => ?_)
  have hU_22 := uv_put hU_18 hI_21 (ro_o hkx (by decide)) (lo := (-2147483648)) (hi := 2147483647) (rfl) (rx_20)
  have hF_23 := fq_puto hF_19 hI_21 hkx (by decide) (by decide)
  exact g_vret B K rfl ⟨iv_bec W9 hU0 hU_22 hLx hkx hLa0 hka0 hb_6 hb_5 hb_3 hb_1 hb_2 hb_4 hI_7 hI_10 hI_13 hI_17 hI_21, hF_23, hG⟩ dX7_become_61
set_option maxRecDepth 100000 in
set_option maxHeartbeats 8000000 in
theorem c_X7_addStep {l : Launch} {D : va_G} {cy : Nat → ClassId} {L : List Nat} {κ ln : Nat → Nat} {R : Nat → Nat → Option Nat} {I : Nat → Nat → Int32} {J : Nat → Nat → Int64} {ow : Nat → Nat × Nat} (W9 : ∀ a ∈ L, Shp L κ ln R ow a) {x : Nat} (hLx : x ∈ L) (hkx : κ x = 7) (a0 : Int32) (a1 : Int32) (a2 : Int32) (ra1 : Rg 0 62 a1) (hU : Iv L κ R ow I) (h23 : a0 = 23 → Rg 0 5 a2) : CtI l yX7_addStep cX7_addStep 4 (some .boolean) { frames := 0, cells := 0, slots := 0, locals := 0 } D cy L κ ln R I J [.ref x, .int a0, .int a1, .int a2] (fun r I2 J2 => Iv L κ R ow I2 ∧ Fq L κ ow [704, 52000, 52100, 52200] I I2 ∧ Fq L κ ow [] J J2 ∧ Rg 0 1 r) := by
  refine CtI.of (by decide +kernel) (Nat.le_of_ble_eq_true rfl) ?_
  intro p e s m below meth c B K
  have C := B.1
  have hF : Fq L κ ow [704, 52000, 52100, 52200] I I := fq_rf
  have hG : Fq L κ ow [] J J := fq_rf
  obtain ⟨b_1, hb_1, hb_1L, hb_1k, hb_1n, hb_1o⟩ := shp_a (W9 x hLx) hkx 2 14 40 rfl (by decide)
  obtain ⟨b_2, hb_2, hb_2L, hb_2k, hb_2n, hb_2o⟩ := shp_a (W9 x hLx) hkx 1 14 40 rfl (by decide)
  obtain ⟨b_3, hb_3, hb_3L, hb_3k, hb_3n, hb_3o⟩ := shp_a (W9 x hLx) hkx 0 14 40 rfl (by decide)
  have hU0 := hU
  have hU := hU0.1
  refine g_lo (is := [0, 1, 2, 3]) (lo2 := [(0, .ref x), (1, .int a0), (2, .int a1), (3, .int a2)]) rfl ?_
  refine g_aload_n C 0 dX7_addStep_0 rfl rfl ?_
  obtain ⟨x_4, hx_4, rx_4⟩ := ex_get (I := I) (a := x) (j := 4) (lo := 0) (hi := 40) hU hLx (ro_o hkx (by decide)) rfl
  refine g_getI C K hLx hkx f_7_24 (v := x_4) hx_4 dX7_addStep_1 ?_
  refine g_bipush C (v := 40) dX7_addStep_4 (by decide) ?_
  refine g_icmp_lt C (tgt := 11) dX7_addStep_6 (by decide) (fun h_5 => ?_) (fun h_5 => ?_)
  · skip
    have r_6 := lt_l (hi := 39) (h_5) rx_4 rc_40 (by decide)
    refine g_aload_n C 0 dX7_addStep_11 rfl rfl ?_
    refine g_getR C K hLx hkx f_7_11 hb_3 dX7_addStep_12 ?_
    refine g_aload_n C 0 dX7_addStep_15 rfl rfl ?_
    refine g_getI C K hLx hkx f_7_24 (v := x_4) hx_4 dX7_addStep_16 ?_
    refine g_iload_n C 1 dX7_addStep_19 rfl rfl ?_
    refine h_iast C K hb_3L hb_3k (x_4.toNatClampNeg) (rfl) (ix_0 r_6 (by decide)) (ix_lt r_6 (by decide) hb_3n (by decide)) dX7_addStep_20 (fun I_7 hI_7 => ?_)
    have hU_8 := uv_put hU hI_7 (ro_a hb_3k (by decide) hb_3o hkx rfl) (lo := (-2147483648)) (hi := 2147483647) (rfl) ((rg_all a0))
    have hF_9 := fq_puta hF hI_7 (ro_a hb_3k (by decide) hb_3o hkx rfl) (by decide) (by decide)
    refine g_aload_n C 0 dX7_addStep_21 rfl rfl ?_
    refine g_getR C K hLx hkx f_7_15 hb_2 dX7_addStep_22 ?_
    refine g_aload_n C 0 dX7_addStep_25 rfl rfl ?_
    refine g_getI C K hLx hkx f_7_24 (v := x_4) (kp_k (κ := κ) hI_7 (by rw [hkx, hb_3k]; decide) hx_4) dX7_addStep_26 ?_
    refine g_iload_n C 2 dX7_addStep_29 rfl rfl ?_
    refine h_iast C K hb_2L hb_2k (x_4.toNatClampNeg) (rfl) (ix_0 r_6 (by decide)) (ix_lt r_6 (by decide) hb_2n (by decide)) dX7_addStep_30 (fun I_10 hI_10 => ?_)
    have hU_11 := uv_put hU_8 hI_10 (ro_a hb_2k (by decide) hb_2o hkx rfl) (lo := (-2147483648)) (hi := 2147483647) (rfl) (rg_all _)
    have hF_12 := fq_puta hF_9 hI_10 (ro_a hb_2k (by decide) hb_2o hkx rfl) (by decide) (by decide)
    refine g_aload_n C 0 dX7_addStep_31 rfl rfl ?_
    refine g_getR C K hLx hkx f_7_18 hb_1 dX7_addStep_32 ?_
    refine g_aload_n C 0 dX7_addStep_35 rfl rfl ?_
    refine g_getI C K hLx hkx f_7_24 (v := x_4) (kp_k (κ := κ) hI_10 (by rw [hkx, hb_2k]; decide) (kp_k (κ := κ) hI_7 (by rw [hkx, hb_3k]; decide) hx_4)) dX7_addStep_36 ?_
    refine g_iload_n C 3 dX7_addStep_39 rfl rfl ?_
    refine h_iast C K hb_1L hb_1k (x_4.toNatClampNeg) (rfl) (ix_0 r_6 (by decide)) (ix_lt r_6 (by decide) hb_1n (by decide)) dX7_addStep_40 (fun I_13 hI_13 => ?_)
    have hU_14 := uv_put hU_11 hI_13 (ro_a hb_1k (by decide) hb_1o hkx rfl) (lo := (-2147483648)) (hi := 2147483647) (rfl) ((rg_all a2))
    have hF_15 := fq_puta hF_12 hI_13 (ro_a hb_1k (by decide) hb_1o hkx rfl) (by decide) (by decide)
    refine g_aload_n C 0 dX7_addStep_41 rfl rfl ?_
    refine g_dup C dX7_addStep_42 rfl ?_
    refine g_getI C K hLx hkx f_7_24 (v := x_4) (kp_k (κ := κ) hI_13 (by rw [hkx, hb_1k]; decide) (kp_k (κ := κ) hI_10 (by rw [hkx, hb_2k]; decide) (kp_k (κ := κ) hI_7 (by rw [hkx, hb_3k]; decide) hx_4))) dX7_addStep_43 ?_
    refine g_iconst C (v := 1) dX7_addStep_46 (by decide) ?_
    obtain ⟨x_16, hx_16, rx_16, tx_16⟩ := ex_add 1 40 r_6 rc_1 (by decide) (by decide) (by decide) (by decide)
    refine g_iadd C (v := x_16) dX7_addStep_47 hx_16 ?_
    refine h_putI C K hLx hkx f_7_24 p_7_4 dX7_addStep_48 (fun I_17 hI_17 => ?_)
    have hU_18 := uv_put hU_14 hI_17 (ro_o hkx (by decide)) (lo := 0) (hi := 40) (rfl) (rg_w rx_16 (by decide) (by decide))
    have hF_19 := fq_puto hF_15 hI_17 hkx (by decide) (by decide)
    refine g_iconst C (v := 1) dX7_addStep_51 (by decide) ?_
    exact g_zret (ty := .boolean) (r := 1) B K rfl (rfl) ⟨iv_add (m := 0) W9 hU0 hU_18 hLx hkx hb_3 hb_2 hb_1 hI_7 hI_10 hI_13 hI_17 h23, hF_19, hG, rg_w rc_1 (by decide) (by decide)⟩ dX7_addStep_52
  · skip
    have r_20 := le_r (nlt h_5) rc_40 rx_4
    refine g_iconst C (v := 0) dX7_addStep_9 (by decide) ?_
    exact g_zret (ty := .boolean) (r := 0) B K rfl (rfl) ⟨hU0, hF, hG, rg_w rc_0 (by decide) (by decide)⟩ dX7_addStep_10
set_option maxRecDepth 100000 in
set_option maxHeartbeats 8000000 in
theorem c_X7_beginsOne {l : Launch} {D : va_G} {cy : Nat → ClassId} {L : List Nat} {κ ln : Nat → Nat} {R : Nat → Nat → Option Nat} {I : Nat → Nat → Int32} {J : Nat → Nat → Int64} {ow : Nat → Nat × Nat} (W9 : ∀ a ∈ L, Shp L κ ln R ow a) (a0 : Int32) (hU : Iv L κ R ow I) : CtI l yX7_beginsOne cX7_beginsOne 1 (some .boolean) { frames := 0, cells := 0, slots := 0, locals := 0 } D cy L κ ln R I J [.int a0] (fun r I2 J2 => I = I2 ∧ J = J2 ∧ Rg 0 1 r) := by
  refine CtI.of (by decide +kernel) (Nat.le_of_ble_eq_true rfl) ?_
  intro p e s m below meth c B K
  have C := B.1
  refine g_lo (is := [0]) (lo2 := [(0, .int a0)]) rfl ?_
  have j_23 : ∀ (v_1 : Int32) (rv_1 : Rg 5 40 v_1), WG p l e { frames := 0, cells := 0, slots := 0, locals := 0 } s m ([.int a0] : List Value).toArray below meth c 1 0 0 (MQ below (Qi_ D cy L κ ln R (fun r I2 J2 => I = I2 ∧ J = J2 ∧ Rg 0 1 r)) ([.int a0] : List Value).toArray s 0 0 (Al_ L)) D cy (Al_ L) s.heap L κ ln R I J 23 [(0, .int v_1)] [] := by
    intro v_1 rv_1
    refine g_iconst C (v := 1) dX7_beginsOne_23 (by decide) ?_
    refine g_goto C (tgt := 28) dX7_beginsOne_24 (by decide) ?_
    exact g_zret (ty := .boolean) (r := 1) B K rfl (rfl) ⟨rfl, rfl, rg_w rc_1 (by decide) (by decide)⟩ dX7_beginsOne_28
  refine g_iload_n C 0 dX7_beginsOne_0 rfl rfl ?_
  refine g_bipush C (v := 40) dX7_beginsOne_1 (by decide) ?_
  refine g_icmp_eq C (tgt := 23) dX7_beginsOne_3 (by decide) (fun h_2 => ?_) (fun h_2 => ?_)
  · skip
    have r_3 := (⟨(eq_rg (h_2) rc_40).1, (eq_rg (h_2) rc_40).2⟩ : Rg 40 40 a0)
    refine g_lo (is := [0]) (lo2 := [(0, .int a0)]) rfl ?_
    exact j_23 a0 (rg_w r_3 (by decide) (by decide))
  · skip
    have n_4 : ¬ a0 = 40 := h_2
    refine g_iload_n C 0 dX7_beginsOne_6 rfl rfl ?_
    refine g_iconst C (v := 5) dX7_beginsOne_7 (by decide) ?_
    refine g_icmp_eq C (tgt := 23) dX7_beginsOne_8 (by decide) (fun h_5 => ?_) (fun h_5 => ?_)
    · skip
      have r_6 := (⟨(eq_rg (h_5) rc_5).1, (eq_rg (h_5) rc_5).2⟩ : Rg 5 5 a0)
      refine g_lo (is := [0]) (lo2 := [(0, .int a0)]) rfl ?_
      exact j_23 a0 (rg_w r_6 (by decide) (by decide))
    · skip
      have n_7 : ¬ a0 = 5 := h_5
      refine g_iload_n C 0 dX7_beginsOne_11 rfl rfl ?_
      refine g_bipush C (v := 19) dX7_beginsOne_12 (by decide) ?_
      refine g_icmp_lt C (tgt := 27) dX7_beginsOne_14 (by decide) (fun h_8 => ?_) (fun h_8 => ?_)
      · skip
        have r_9 := lt_l (hi := 18) (h_8) (rg_all a0) rc_19 (by decide)
        refine g_iconst C (v := 0) dX7_beginsOne_27 (by decide) ?_
        exact g_zret (ty := .boolean) (r := 0) B K rfl (rfl) ⟨rfl, rfl, rg_w rc_0 (by decide) (by decide)⟩ dX7_beginsOne_28
      · skip
        have r_10 := le_r (nlt h_8) rc_19 (rg_all a0)
        refine g_iload_n C 0 dX7_beginsOne_17 rfl rfl ?_
        refine g_bipush C (v := 27) dX7_beginsOne_18 (by decide) ?_
        refine g_icmp_gt C (tgt := 27) dX7_beginsOne_20 (by decide) (fun h_11 => ?_) (fun h_11 => ?_)
        · skip
          have r_12 := lt_r (lo := 28) (h_11) rc_27 r_10 (by decide)
          refine g_iconst C (v := 0) dX7_beginsOne_27 (by decide) ?_
          exact g_zret (ty := .boolean) (r := 0) B K rfl (rfl) ⟨rfl, rfl, rg_w rc_0 (by decide) (by decide)⟩ dX7_beginsOne_28
        · skip
          have r_13 := le_l (nlt h_11) r_10 rc_27
          refine g_lo (is := [0]) (lo2 := [(0, .int a0)]) rfl ?_
          exact j_23 a0 (rg_w r_13 (by decide) (by decide))
set_option maxRecDepth 100000 in
set_option maxHeartbeats 8000000 in
theorem c_X7_readOne_9 {l : Launch} {D : va_G} {cy : Nat → ClassId} {L : List Nat} {κ ln : Nat → Nat} {R : Nat → Nat → Option Nat} {I : Nat → Nat → Int32} {J : Nat → Nat → Int64} {ow : Nat → Nat × Nat} (W9 : ∀ a ∈ L, Shp L κ ln R ow a) {x : Nat} (hLx : x ∈ L) (hkx : κ x = 7) {a0 : Nat} (hLa0 : a0 ∈ L) (hka0 : κ a0 = 10) {a1 : Nat} (hLa1 : a1 ∈ L) (hka1 : κ a1 = 8) (a2 : Int32) (ra2 : Rg 9 9 a2) (hU : Iv L κ R ow I) : CtI l yX7_readOne cX7_readOne 5 (some .boolean) { frames := 1, cells := 0, slots := 0, locals := 21 } D cy L κ ln R I J [.ref x, .ref a0, .ref a1, .int a2] (fun r I2 J2 => Iv L κ R ow I2 ∧ Fq L κ ow [1011, 1012] I I2 ∧ Fq L κ ow [] J J2 ∧ Rg 0 0 r) := by
  refine CtI.of (by decide +kernel) (Nat.le_of_ble_eq_true rfl) ?_
  intro p e s m below meth c B K
  have C := B.1
  have hF : Fq L κ ow [1011, 1012] I I := fq_rf
  have hG : Fq L κ ow [] J J := fq_rf
  refine g_lo (is := [0, 1, 2, 3]) (lo2 := [(0, .ref x), (1, .ref a0), (2, .ref a1), (3, .int a2)]) rfl ?_
  have j_35 : ∀ (I_1 : Nat → Nat → Int32) (J_2 : Nat → Nat → Int64) (hU_3 : Iv L κ R ow I_1) (hF_4 : Fq L κ ow [1011, 1012] I I_1) (hG_5 : Fq L κ ow [] J J_2) (v_6 : Int32) (rv_6 : Rg 9 9 v_6) (v_7 : Int32) (v_8 : Int32) (q_9 : I_1 a0 8 = v_7) (q_10 : I_1 x 5 = v_8), WG p l e { frames := 1, cells := 0, slots := 0, locals := 21 } s m ([.ref x, .ref a0, .ref a1, .int a2] : List Value).toArray below meth c 5 0 0 (MQ below (Qi_ D cy L κ ln R (fun r I2 J2 => Iv L κ R ow I2 ∧ Fq L κ ow [1011, 1012] I I2 ∧ Fq L κ ow [] J J2 ∧ Rg 0 0 r)) ([.ref x, .ref a0, .ref a1, .int a2] : List Value).toArray s 0 0 (Al_ L)) D cy (Al_ L) s.heap L κ ln R I_1 J_2 35 [(0, .ref x), (1, .ref a0), (2, .ref a1), (3, .int v_6), (4, .int v_7)] [] := by
    intro I_1 J_2 hU_3 hF_4 hG_5 v_6 rv_6 v_7 v_8 q_9 q_10
    refine g_aload_n C 1 dX7_readOne_35 rfl rfl ?_
    refine g_iconst C (v := 4) dX7_readOne_36 (by decide) ?_
    refine g_callVI C K (c_X10_fail W9 hLa0 hka0 4 (rg_w rc_4 (by decide) (by decide)) hU_3) hLa0 hka0 (by decide) rfl v_7_73 rfl ⟨rfl, rfl⟩ ⟨Nat.le_of_ble_eq_true rfl, Nat.le_of_ble_eq_true rfl⟩ (Nat.le_of_ble_eq_true rfl) ⟨Nat.le_of_ble_eq_true rfl, Nat.le_of_ble_eq_true rfl⟩ dX7_readOne_37 rfl (st := []) (fun x_11 I_12 J_13 h_14 => ?_)
    obtain ⟨hUI_12, hFI_12, hGJ_13, rx_11, fx_11⟩ := h_14
    have hF_15 := fq_tr hF_4 hFI_12 (by decide)
    have hG_16 := fq_tr hG_5 hGJ_13 (by decide)
    exact g_zret (ty := .boolean) (r := x_11) B K rfl (nar_z (rg_w rx_11 (by decide) (by decide))) ⟨hUI_12, hF_15, hG_16, rx_11⟩ dX7_readOne_40
  refine g_aload_n C 1 dX7_readOne_0 rfl rfl ?_
  obtain ⟨x_17, hx_17, rx_17⟩ := ex_get (I := I) (a := a0) (j := 8) (lo := (-2147483648)) (hi := 2147483647) hU.1 hLa0 (ro_o hka0 (by decide)) rfl
  refine g_getI C K hLa0 hka0 f_7_57 (v := x_17) hx_17 dX7_readOne_1 ?_
  refine g_istore C dX7_readOne_4 (by decide) (lo2 := [(4, .int x_17), (0, .ref x), (1, .ref a0), (2, .ref a1), (3, .int a2)]) rfl ?_
  refine g_iload C 0 dX7_readOne_6 rfl ?_
  refine g_callSI C K (c_X7_beginsOne W9 x_17  hU) s_7_70 rfl ⟨rfl, rfl⟩ ⟨Nat.le_of_ble_eq_true rfl, Nat.le_of_ble_eq_true rfl⟩ (Nat.le_of_ble_eq_true rfl) ⟨Nat.le_of_ble_eq_true rfl, Nat.le_of_ble_eq_true rfl⟩ dX7_readOne_8 rfl (st := []) (fun x_18 I_19 J_20 h_21 => ?_)
  obtain ⟨rfl, rfl, rx_18⟩ := h_21
  refine g_if_ne C (tgt := 20) dX7_readOne_11 (by decide) (fun h_22 => ?_) (fun h_22 => ?_)
  · skip
    have n_23 : ¬ x_18 = 0 := h_22
    have r_24 := ne_lo (lo := 1) n_23 rx_18 rc_0 rfl (by decide)
    refine g_aload_n C 1 dX7_readOne_20 rfl rfl ?_
    obtain ⟨x_25, hx_25, rx_25⟩ := ex_get (I := I) (a := x) (j := 5) (lo := (-2147483648)) (hi := 2147483647) hU.1 hLx (ro_o hkx (by decide)) rfl
    refine g_getI C K hLx hkx f_7_28 (v := x_25) hx_25 dX7_readOne_21 ?_
    refine g_bipush C (v := 20) dX7_readOne_24 (by decide) ?_
    refine g_icmp_ge C (tgt := 35) dX7_readOne_26 (by decide) (fun h_26 => ?_) (fun h_26 => ?_)
    · skip
      have r_27 := le_r (h_26) rc_20 rx_25
      refine g_lo (is := [1, 2, 3, 4, 0]) (lo2 := [(0, .ref x), (1, .ref a0), (2, .ref a1), (3, .int a2), (4, .int x_17)]) rfl ?_
      exact j_35 I J hU hF hG a2 (ra2) x_17 x_25 hx_17 hx_25
    · skip
      have r_28 := lt_l (hi := 19) (nle h_26) rx_25 rc_20 (by decide)
      refine g_iload_n C 4 dX7_readOne_29 rfl rfl ?_
      refine g_bipush C (v := 8) dX7_readOne_30 (by decide) ?_
      refine g_icmp_le C (tgt := 41) dX7_readOne_32 (by decide) (fun h_29 => ?_) (fun h_29 => ?_)
      · skip
        have r_30 := le_l (h_29) ra2 rc_8
        exact rg_no r_30 (by decide)
      · skip
        refine g_lo (is := [1, 2, 3, 4, 0]) (lo2 := [(0, .ref x), (1, .ref a0), (2, .ref a1), (3, .int a2), (4, .int x_17)]) rfl ?_
        exact j_35 I J hU hF hG a2 (ra2) x_17 x_25 hx_17 hx_25
  · skip
    have r_31 := (⟨(rx_18).1, (eq_rg (h_22) rc_0).2⟩ : Rg 0 0 x_18)
    refine g_aload_n C 2 dX7_readOne_14 rfl rfl ?_
    refine g_iconst C (v := 1) dX7_readOne_15 (by decide) ?_
    refine g_callVI C K (c_X10_fail W9 hLa0 hka0 1 (rg_w rc_1 (by decide) (by decide)) hU) hLa0 hka0 (by decide) rfl v_7_73 rfl ⟨rfl, rfl⟩ ⟨Nat.le_of_ble_eq_true rfl, Nat.le_of_ble_eq_true rfl⟩ (Nat.le_of_ble_eq_true rfl) ⟨Nat.le_of_ble_eq_true rfl, Nat.le_of_ble_eq_true rfl⟩ dX7_readOne_16 rfl (st := []) (fun x_32 I_33 J_34 h_35 => ?_)
    obtain ⟨hUI_33, hFI_33, hGJ_34, rx_32, fx_32⟩ := h_35
    have hF_36 := fq_tr hF hFI_33 (by decide)
    have hG_37 := fq_tr hG hGJ_34 (by decide)
    exact g_zret (ty := .boolean) (r := x_32) B K rfl (nar_z (rg_w rx_32 (by decide) (by decide))) ⟨hUI_33, hF_36, hG_37, rx_32⟩ dX7_readOne_19
set_option maxRecDepth 100000 in
set_option maxHeartbeats 8000000 in
theorem c_X7_readAll_9 {l : Launch} {D : va_G} {cy : Nat → ClassId} {L : List Nat} {κ ln : Nat → Nat} {R : Nat → Nat → Option Nat} {I : Nat → Nat → Int32} {J : Nat → Nat → Int64} {ow : Nat → Nat × Nat} (W9 : ∀ a ∈ L, Shp L κ ln R ow a) {x : Nat} (hLx : x ∈ L) (hkx : κ x = 7) {a0 : Nat} (hLa0 : a0 ∈ L) (hka0 : κ a0 = 10) {a1 : Nat} (hLa1 : a1 ∈ L) (hka1 : κ a1 = 8) (a2 : Int32) (ra2 : Rg 9 9 a2) (hU : Iv L κ R ow I) : CtI l yX7_readAll cX7_readAll 6 (some .boolean) { frames := 2, cells := 0, slots := 0, locals := 45 } D cy L κ ln R I J [.ref x, .ref a0, .ref a1, .int a2] (fun r I2 J2 => Iv L κ R ow I2 ∧ Fq L κ ow [1011, 1012] I I2 ∧ Fq L κ ow [] J J2 ∧ Rg 0 0 r) := by
  refine CtI.of (by decide +kernel) (Nat.le_of_ble_eq_true rfl) ?_
  intro p e s m below meth c B K
  have C := B.1
  have hF : Fq L κ ow [1011, 1012] I I := fq_rf
  have hG : Fq L κ ow [] J J := fq_rf
  refine g_lo (is := [0, 1, 2, 3]) (lo2 := [(0, .ref x), (1, .ref a0), (2, .ref a1), (3, .int a2)]) rfl ?_
  have j_12 : ∀ (I_1 : Nat → Nat → Int32) (J_2 : Nat → Nat → Int64) (hU_3 : Iv L κ R ow I_1) (hF_4 : Fq L κ ow [1011, 1012] I I_1) (hG_5 : Fq L κ ow [] J J_2) (v_6 : Int32) (rv_6 : Rg 9 9 v_6) (v_7 : Int32) (rv_7 : Rg 0 0 v_7), WG p l e { frames := 2, cells := 0, slots := 0, locals := 45 } s m ([.ref x, .ref a0, .ref a1, .int a2] : List Value).toArray below meth c 6 0 0 (MQ below (Qi_ D cy L κ ln R (fun r I2 J2 => Iv L κ R ow I2 ∧ Fq L κ ow [1011, 1012] I I2 ∧ Fq L κ ow [] J J2 ∧ Rg 0 0 r)) ([.ref x, .ref a0, .ref a1, .int a2] : List Value).toArray s 0 0 (Al_ L)) D cy (Al_ L) s.heap L κ ln R I_1 J_2 12 [(0, .ref x), (1, .ref a0), (2, .ref a1), (3, .int v_6), (4, .int v_7), (5, .int 0)] [] := by
    intro I_1 J_2 hU_3 hF_4 hG_5 v_6 rv_6 v_7 rv_7
    refine g_iload C 5 dX7_readAll_12 rfl ?_
    refine g_bipush C (v := 20) dX7_readAll_14 (by decide) ?_
    refine g_icmp_ge C (tgt := 71) dX7_readAll_16 (by decide) (fun h_8 => ?_) (fun h_8 => ?_)
    · skip
      exact absurd (h_8) (by decide)
    · skip
      refine g_iload C 4 dX7_readAll_19 rfl ?_
      refine g_if_eq C (tgt := 71) dX7_readAll_21 (by decide) (fun h_9 => ?_) (fun h_9 => ?_)
      · skip
        refine g_iload C 4 dX7_readAll_71 rfl ?_
        exact g_zret (ty := .boolean) (r := v_7) B K rfl (nar_z (rg_w rv_7 (by decide) (by decide))) ⟨hU_3, hF_4, hG_5, rv_7⟩ dX7_readAll_73
      · skip
        exact ne_no (h_9) rv_7 rc_0
  refine g_aload_n C 0 dX7_readAll_0 rfl rfl ?_
  refine g_aload_n C 1 dX7_readAll_1 rfl rfl ?_
  refine g_aload_n C 2 dX7_readAll_2 rfl rfl ?_
  refine g_iload_n C 3 dX7_readAll_3 rfl rfl ?_
  refine g_callVI C K (c_X7_readOne_9 W9 hLx hkx hLa0 hka0 hLa1 hka1 a2 (ra2) hU) hLx hkx (by decide) rfl v_7_67 rfl ⟨rfl, rfl⟩ ⟨Nat.le_of_ble_eq_true rfl, Nat.le_of_ble_eq_true rfl⟩ (Nat.le_of_ble_eq_true rfl) ⟨Nat.le_of_ble_eq_true rfl, Nat.le_of_ble_eq_true rfl⟩ dX7_readAll_4 rfl (st := []) (fun x_10 I_11 J_12 h_13 => ?_)
  obtain ⟨hUI_11, hFI_11, hGJ_12, rx_10⟩ := h_13
  have hF_14 := fq_tr hF hFI_11 (by decide)
  have hG_15 := fq_tr hG hGJ_12 (by decide)
  refine g_istore C dX7_readAll_7 (by decide) (lo2 := [(4, .int x_10), (0, .ref x), (1, .ref a0), (2, .ref a1), (3, .int a2)]) rfl ?_
  refine g_iconst C (v := 0) dX7_readAll_9 (by decide) ?_
  refine g_istore C dX7_readAll_10 (by decide) (lo2 := [(5, .int 0), (4, .int x_10), (0, .ref x), (1, .ref a0), (2, .ref a1), (3, .int a2)]) rfl ?_
  refine g_lo (is := [2, 3, 4, 5, 1, 0]) (lo2 := [(0, .ref x), (1, .ref a0), (2, .ref a1), (3, .int a2), (4, .int x_10), (5, .int 0)]) rfl ?_
  exact j_12 I_11 J_12 hUI_11 hF_14 hG_15 a2 (ra2) x_10 (rx_10)
set_option maxRecDepth 100000 in
set_option maxHeartbeats 8000000 in
theorem c_X7_readCond_9 {l : Launch} {D : va_G} {cy : Nat → ClassId} {L : List Nat} {κ ln : Nat → Nat} {R : Nat → Nat → Option Nat} {I : Nat → Nat → Int32} {J : Nat → Nat → Int64} {ow : Nat → Nat × Nat} (W9 : ∀ a ∈ L, Shp L κ ln R ow a) {x : Nat} (hLx : x ∈ L) (hkx : κ x = 7) {a0 : Nat} (hLa0 : a0 ∈ L) (hka0 : κ a0 = 10) {a1 : Nat} (hLa1 : a1 ∈ L) (hka1 : κ a1 = 8) (a2 : Int32) (ra2 : Rg 9 9 a2) (hU : Iv L κ R ow I) : CtI l yX7_readCond cX7_readCond 6 (some .boolean) { frames := 3, cells := 0, slots := 0, locals := 70 } D cy L κ ln R I J [.ref x, .ref a0, .ref a1, .int a2] (fun r I2 J2 => Iv L κ R ow I2 ∧ Fq L κ ow [1011, 1012] I I2 ∧ Fq L κ ow [] J J2 ∧ Rg 0 0 r) := by
  refine CtI.of (by decide +kernel) (Nat.le_of_ble_eq_true rfl) ?_
  intro p e s m below meth c B K
  have C := B.1
  have hF : Fq L κ ow [1011, 1012] I I := fq_rf
  have hG : Fq L κ ow [] J J := fq_rf
  refine g_lo (is := [0, 1, 2, 3]) (lo2 := [(0, .ref x), (1, .ref a0), (2, .ref a1), (3, .int a2)]) rfl ?_
  have j_12 : ∀ (I_1 : Nat → Nat → Int32) (J_2 : Nat → Nat → Int64) (hU_3 : Iv L κ R ow I_1) (hF_4 : Fq L κ ow [1011, 1012] I I_1) (hG_5 : Fq L κ ow [] J J_2) (v_6 : Int32) (rv_6 : Rg 9 9 v_6) (v_7 : Int32) (rv_7 : Rg 0 0 v_7), WG p l e { frames := 3, cells := 0, slots := 0, locals := 70 } s m ([.ref x, .ref a0, .ref a1, .int a2] : List Value).toArray below meth c 6 0 0 (MQ below (Qi_ D cy L κ ln R (fun r I2 J2 => Iv L κ R ow I2 ∧ Fq L κ ow [1011, 1012] I I2 ∧ Fq L κ ow [] J J2 ∧ Rg 0 0 r)) ([.ref x, .ref a0, .ref a1, .int a2] : List Value).toArray s 0 0 (Al_ L)) D cy (Al_ L) s.heap L κ ln R I_1 J_2 12 [(0, .ref x), (1, .ref a0), (2, .ref a1), (3, .int v_6), (4, .int v_7), (5, .int 0)] [] := by
    intro I_1 J_2 hU_3 hF_4 hG_5 v_6 rv_6 v_7 rv_7
    refine g_iload C 5 dX7_readCond_12 rfl ?_
    refine g_bipush C (v := 20) dX7_readCond_14 (by decide) ?_
    refine g_icmp_ge C (tgt := 71) dX7_readCond_16 (by decide) (fun h_8 => ?_) (fun h_8 => ?_)
    · skip
      exact absurd (h_8) (by decide)
    · skip
      refine g_iload C 4 dX7_readCond_19 rfl ?_
      refine g_if_eq C (tgt := 71) dX7_readCond_21 (by decide) (fun h_9 => ?_) (fun h_9 => ?_)
      · skip
        refine g_iload C 4 dX7_readCond_71 rfl ?_
        exact g_zret (ty := .boolean) (r := v_7) B K rfl (nar_z (rg_w rv_7 (by decide) (by decide))) ⟨hU_3, hF_4, hG_5, rv_7⟩ dX7_readCond_73
      · skip
        exact ne_no (h_9) rv_7 rc_0
  refine g_aload_n C 0 dX7_readCond_0 rfl rfl ?_
  refine g_aload_n C 1 dX7_readCond_1 rfl rfl ?_
  refine g_aload_n C 2 dX7_readCond_2 rfl rfl ?_
  refine g_iload_n C 3 dX7_readCond_3 rfl rfl ?_
  refine g_callVI C K (c_X7_readAll_9 W9 hLx hkx hLa0 hka0 hLa1 hka1 a2 (ra2) hU) hLx hkx (by decide) rfl v_7_54 rfl ⟨rfl, rfl⟩ ⟨Nat.le_of_ble_eq_true rfl, Nat.le_of_ble_eq_true rfl⟩ (Nat.le_of_ble_eq_true rfl) ⟨Nat.le_of_ble_eq_true rfl, Nat.le_of_ble_eq_true rfl⟩ dX7_readCond_4 rfl (st := []) (fun x_10 I_11 J_12 h_13 => ?_)
  obtain ⟨hUI_11, hFI_11, hGJ_12, rx_10⟩ := h_13
  have hF_14 := fq_tr hF hFI_11 (by decide)
  have hG_15 := fq_tr hG hGJ_12 (by decide)
  refine g_istore C dX7_readCond_7 (by decide) (lo2 := [(4, .int x_10), (0, .ref x), (1, .ref a0), (2, .ref a1), (3, .int a2)]) rfl ?_
  refine g_iconst C (v := 0) dX7_readCond_9 (by decide) ?_
  refine g_istore C dX7_readCond_10 (by decide) (lo2 := [(5, .int 0), (4, .int x_10), (0, .ref x), (1, .ref a0), (2, .ref a1), (3, .int a2)]) rfl ?_
  refine g_lo (is := [2, 3, 4, 5, 1, 0]) (lo2 := [(0, .ref x), (1, .ref a0), (2, .ref a1), (3, .int a2), (4, .int x_10), (5, .int 0)]) rfl ?_
  exact j_12 I_11 J_12 hUI_11 hF_14 hG_15 a2 (ra2) x_10 (rx_10)
set_option maxRecDepth 100000 in
set_option maxHeartbeats 8000000 in
theorem c_X7_readPlainOne {l : Launch} {D : va_G} {cy : Nat → ClassId} {L : List Nat} {κ ln : Nat → Nat} {R : Nat → Nat → Option Nat} {I : Nat → Nat → Int32} {J : Nat → Nat → Int64} {ow : Nat → Nat × Nat} (W9 : ∀ a ∈ L, Shp L κ ln R ow a) {x : Nat} (hLx : x ∈ L) (hkx : κ x = 7) {a0 : Nat} (hLa0 : a0 ∈ L) (hka0 : κ a0 = 10) {a1 : Nat} (hLa1 : a1 ∈ L) (hka1 : κ a1 = 8) (a2 : Int32) (hU : Iv L κ R ow I) : CtI l yX7_readPlainOne cX7_readPlainOne 6 (some .boolean) { frames := 2, cells := 0, slots := 0, locals := 44 } D cy L κ ln R I J [.ref x, .ref a0, .ref a1, .int a2] (fun r I2 J2 => Iv L κ R ow I2 ∧ Fq L κ ow [704, 1007, 1008, 1009, 1011, 1012, 52000, 52100, 52200] I I2 ∧ Fq L κ ow [1010] J J2 ∧ Rg 0 1 r) := by
  refine CtI.of (by decide +kernel) (Nat.le_of_ble_eq_true rfl) ?_
  intro p e s m below meth c B K
  have C := B.1
  have hF : Fq L κ ow [704, 1007, 1008, 1009, 1011, 1012, 52000, 52100, 52200] I I := fq_rf
  have hG : Fq L κ ow [1010] J J := fq_rf
  refine g_lo (is := [0, 1, 2, 3]) (lo2 := [(0, .ref x), (1, .ref a0), (2, .ref a1), (3, .int a2)]) rfl ?_
  have j_132 : ∀ (I_1 : Nat → Nat → Int32) (J_2 : Nat → Nat → Int64) (hU_3 : Iv L κ R ow I_1) (hF_4 : Fq L κ ow [704, 1007, 1008, 1009, 1011, 1012, 52000, 52100, 52200] I I_1) (hG_5 : Fq L κ ow [1010] J J_2) (v_6 : Int32) (rv_6 : Rg 24 2147483647 v_6) (nv_6_5 : ¬ v_6 = 5) (nv_6_23 : ¬ v_6 = 23) (v_7 : Int32) (rv_7 : Rg 60 62 v_7) (q_8 : I_1 a0 8 = v_7), WG p l e { frames := 2, cells := 0, slots := 0, locals := 44 } s m ([.ref x, .ref a0, .ref a1, .int a2] : List Value).toArray below meth c 6 0 0 (MQ below (Qi_ D cy L κ ln R (fun r I2 J2 => Iv L κ R ow I2 ∧ Fq L κ ow [704, 1007, 1008, 1009, 1011, 1012, 52000, 52100, 52200] I I2 ∧ Fq L κ ow [1010] J J2 ∧ Rg 0 1 r)) ([.ref x, .ref a0, .ref a1, .int a2] : List Value).toArray s 0 0 (Al_ L)) D cy (Al_ L) s.heap L κ ln R I_1 J_2 132 [(0, .ref x), (1, .ref a0), (2, .ref a1), (3, .int v_6), (4, .int v_7)] [] := by
    intro I_1 J_2 hU_3 hF_4 hG_5 v_6 rv_6 nv_6_5 nv_6_23 v_7 rv_7 q_8
    refine g_aload_n C 1 dX7_readPlainOne_132 rfl rfl ?_
    refine g_callVV C K (c_X10_advance W9 hLa0 hka0   hU_3) hLa0 hka0 (by decide) rfl v_7_60 rfl ⟨rfl, rfl⟩ ⟨Nat.le_of_ble_eq_true rfl, Nat.le_of_ble_eq_true rfl⟩ (Nat.le_of_ble_eq_true rfl) ⟨Nat.le_of_ble_eq_true rfl, Nat.le_of_ble_eq_true rfl⟩ dX7_readPlainOne_133 rfl (st := []) (fun I_10 J_11 h_12 => ?_)
    obtain ⟨hUI_10, hFI_10, hGJ_11, fx_9⟩ := h_12
    have hF_13 := fq_tr hF_4 hFI_10 (by decide)
    have hG_14 := fq_tr hG_5 hGJ_11 (by decide)
    refine g_aload_n C 1 dX7_readPlainOne_136 rfl rfl ?_
    refine g_iconst C (v := 0) dX7_readPlainOne_137 (by decide) ?_
    refine g_sipush C (v := 999) dX7_readPlainOne_138 (by decide) ?_
    refine g_callVI C K (c_X10_takeNumber W9 hLa0 hka0 0 999 (rg_w rc_0 (by decide) (by decide)) (rg_w rc_999 (by decide) (by decide)) hUI_10) hLa0 hka0 (by decide) rfl v_7_96 rfl ⟨rfl, rfl⟩ ⟨Nat.le_of_ble_eq_true rfl, Nat.le_of_ble_eq_true rfl⟩ (Nat.le_of_ble_eq_true rfl) ⟨Nat.le_of_ble_eq_true rfl, Nat.le_of_ble_eq_true rfl⟩ dX7_readPlainOne_141 rfl (st := []) (fun x_15 I_16 J_17 h_18 => ?_)
    obtain ⟨hUI_16, hFI_16, hGJ_17, rx_15, fx_15⟩ := h_18
    have hF_19 := fq_tr hF_13 hFI_16 (by decide)
    have hG_20 := fq_tr hG_14 hGJ_17 (by decide)
    refine g_istore C dX7_readPlainOne_144 (by decide) (lo2 := [(5, .int x_15), (0, .ref x), (1, .ref a0), (2, .ref a1), (3, .int v_6), (4, .int v_7)]) rfl ?_
    refine g_iload C 0 dX7_readPlainOne_146 rfl ?_
    refine g_iconst C (v := (-1)) dX7_readPlainOne_148 (by decide) ?_
    refine g_icmp_eq C (tgt := 168) dX7_readPlainOne_149 (by decide) (fun h_21 => ?_) (fun h_21 => ?_)
    · skip
      have r_22 := (⟨(eq_rg (h_21) rc_m1).1, (eq_rg (h_21) rc_m1).2⟩ : Rg (-1) (-1) x_15)
      refine g_iconst C (v := 0) dX7_readPlainOne_168 (by decide) ?_
      exact g_zret (ty := .boolean) (r := 0) B K rfl (rfl) ⟨hUI_16, hF_19, hG_20, rg_w rc_0 (by decide) (by decide)⟩ dX7_readPlainOne_169
    · skip
      have n_23 : ¬ x_15 = (-1) := h_21
      refine g_aload_n C 1 dX7_readPlainOne_152 rfl rfl ?_
      refine g_iload_n C 4 dX7_readPlainOne_153 rfl rfl ?_
      refine g_iload C 5 dX7_readPlainOne_154 rfl ?_
      refine g_iload C 0 dX7_readPlainOne_156 rfl ?_
      refine g_callVI C K (c_X7_addStep W9 hLx hkx v_6 v_7 x_15 (rg_w rv_7 (by decide) (by decide)) hUI_16  (fun q => absurd q nv_6_23)) hLx hkx (by decide) rfl v_7_63 rfl ⟨rfl, rfl⟩ ⟨Nat.le_of_ble_eq_true rfl, Nat.le_of_ble_eq_true rfl⟩ (Nat.le_of_ble_eq_true rfl) ⟨Nat.le_of_ble_eq_true rfl, Nat.le_of_ble_eq_true rfl⟩ dX7_readPlainOne_158 rfl (st := []) (fun x_24 I_25 J_26 h_27 => ?_)
      obtain ⟨hUI_25, hFI_25, hGJ_26, rx_24⟩ := h_27
      have hF_28 := fq_tr hF_19 hFI_25 (by decide)
      have hG_29 := fq_tr hG_20 hGJ_26 (by decide)
      refine g_if_eq C (tgt := 168) dX7_readPlainOne_161 (by decide) (fun h_30 => ?_) (fun h_30 => ?_)
      · skip
        have r_31 := (⟨(rx_24).1, (eq_rg (h_30) rc_0).2⟩ : Rg 0 0 x_24)
        refine g_iconst C (v := 0) dX7_readPlainOne_168 (by decide) ?_
        exact g_zret (ty := .boolean) (r := 0) B K rfl (rfl) ⟨hUI_25, hF_28, hG_29, rg_w rc_0 (by decide) (by decide)⟩ dX7_readPlainOne_169
      · skip
        have n_32 : ¬ x_24 = 0 := h_30
        have r_33 := ne_lo (lo := 1) n_32 rx_24 rc_0 rfl (by decide)
        refine g_iconst C (v := 1) dX7_readPlainOne_164 (by decide) ?_
        refine g_goto C (tgt := 169) dX7_readPlainOne_165 (by decide) ?_
        exact g_zret (ty := .boolean) (r := 1) B K rfl (rfl) ⟨hUI_25, hF_28, hG_29, rg_w rc_1 (by decide) (by decide)⟩ dX7_readPlainOne_169
  refine g_iload_n C 3 dX7_readPlainOne_0 rfl rfl ?_
  refine g_iconst C (v := 5) dX7_readPlainOne_1 (by decide) ?_
  refine g_icmp_ne C (tgt := 42) dX7_readPlainOne_2 (by decide) (fun h_34 => ?_) (fun h_34 => ?_)
  · skip
    have n_35 : ¬ a2 = 5 := h_34
    refine g_iload_n C 3 dX7_readPlainOne_42 rfl rfl ?_
    refine g_bipush C (v := 23) dX7_readPlainOne_43 (by decide) ?_
    refine g_icmp_ne C (tgt := 85) dX7_readPlainOne_45 (by decide) (fun h_36 => ?_) (fun h_36 => ?_)
    · skip
      have n_37 : ¬ a2 = 23 := h_36
      refine g_iload_n C 3 dX7_readPlainOne_85 rfl rfl ?_
      refine g_bipush C (v := 23) dX7_readPlainOne_86 (by decide) ?_
      refine g_icmp_ge C (tgt := 99) dX7_readPlainOne_88 (by decide) (fun h_38 => ?_) (fun h_38 => ?_)
      · skip
        have r_39 := le_r (h_38) rc_23 (rg_all a2)
        have r_40 := ne_lo (lo := 24) n_37 r_39 rc_23 rfl (by decide)
        refine g_aload_n C 1 dX7_readPlainOne_99 rfl rfl ?_
        obtain ⟨x_41, hx_41, rx_41⟩ := ex_get (I := I) (a := a0) (j := 8) (lo := (-2147483648)) (hi := 2147483647) hU.1 hLa0 (ro_o hka0 (by decide)) rfl
        refine g_getI C K hLa0 hka0 f_7_57 (v := x_41) hx_41 dX7_readPlainOne_100 ?_
        refine g_istore C dX7_readPlainOne_103 (by decide) (lo2 := [(4, .int x_41), (0, .ref x), (1, .ref a0), (2, .ref a1), (3, .int a2)]) rfl ?_
        refine g_iload C 0 dX7_readPlainOne_105 rfl ?_
        refine g_bipush C (v := 60) dX7_readPlainOne_107 (by decide) ?_
        refine g_icmp_eq C (tgt := 132) dX7_readPlainOne_109 (by decide) (fun h_42 => ?_) (fun h_42 => ?_)
        · skip
          have r_43 := (⟨(eq_rg (h_42) rc_60).1, (eq_rg (h_42) rc_60).2⟩ : Rg 60 60 x_41)
          refine g_lo (is := [1, 2, 3, 4, 0]) (lo2 := [(0, .ref x), (1, .ref a0), (2, .ref a1), (3, .int a2), (4, .int x_41)]) rfl ?_
          exact j_132 I J hU hF hG a2 (r_40) (n_35) (n_37) x_41 (rg_w r_43 (by decide) (by decide)) hx_41
        · skip
          have n_44 : ¬ x_41 = 60 := h_42
          refine g_iload C 0 dX7_readPlainOne_112 rfl ?_
          refine g_bipush C (v := 61) dX7_readPlainOne_114 (by decide) ?_
          refine g_icmp_eq C (tgt := 132) dX7_readPlainOne_116 (by decide) (fun h_45 => ?_) (fun h_45 => ?_)
          · skip
            have r_46 := (⟨(eq_rg (h_45) rc_61).1, (eq_rg (h_45) rc_61).2⟩ : Rg 61 61 x_41)
            refine g_lo (is := [1, 2, 3, 4, 0]) (lo2 := [(0, .ref x), (1, .ref a0), (2, .ref a1), (3, .int a2), (4, .int x_41)]) rfl ?_
            exact j_132 I J hU hF hG a2 (r_40) (n_35) (n_37) x_41 (rg_w r_46 (by decide) (by decide)) hx_41
          · skip
            have n_47 : ¬ x_41 = 61 := h_45
            refine g_iload C 0 dX7_readPlainOne_119 rfl ?_
            refine g_bipush C (v := 62) dX7_readPlainOne_121 (by decide) ?_
            refine g_icmp_eq C (tgt := 132) dX7_readPlainOne_123 (by decide) (fun h_48 => ?_) (fun h_48 => ?_)
            · skip
              have r_49 := (⟨(eq_rg (h_48) rc_62).1, (eq_rg (h_48) rc_62).2⟩ : Rg 62 62 x_41)
              refine g_lo (is := [1, 2, 3, 4, 0]) (lo2 := [(0, .ref x), (1, .ref a0), (2, .ref a1), (3, .int a2), (4, .int x_41)]) rfl ?_
              exact j_132 I J hU hF hG a2 (r_40) (n_35) (n_37) x_41 (rg_w r_49 (by decide) (by decide)) hx_41
            · skip
              have n_50 : ¬ x_41 = 62 := h_48
              refine g_aload_n C 2 dX7_readPlainOne_126 rfl rfl ?_
              refine g_iconst C (v := 1) dX7_readPlainOne_127 (by decide) ?_
              refine g_callVI C K (c_X10_fail W9 hLa0 hka0 1 (rg_w rc_1 (by decide) (by decide)) hU) hLa0 hka0 (by decide) rfl v_7_73 rfl ⟨rfl, rfl⟩ ⟨Nat.le_of_ble_eq_true rfl, Nat.le_of_ble_eq_true rfl⟩ (Nat.le_of_ble_eq_true rfl) ⟨Nat.le_of_ble_eq_true rfl, Nat.le_of_ble_eq_true rfl⟩ dX7_readPlainOne_128 rfl (st := []) (fun x_51 I_52 J_53 h_54 => ?_)
              obtain ⟨hUI_52, hFI_52, hGJ_53, rx_51, fx_51⟩ := h_54
              have hF_55 := fq_tr hF hFI_52 (by decide)
              have hG_56 := fq_tr hG hGJ_53 (by decide)
              exact g_zret (ty := .boolean) (r := x_51) B K rfl (nar_z (rg_w rx_51 (by decide) (by decide))) ⟨hUI_52, hF_55, hG_56, rg_w rx_51 (by decide) (by decide)⟩ dX7_readPlainOne_131
      · skip
        have r_57 := lt_l (hi := 22) (nle h_38) (rg_all a2) rc_23 (by decide)
        refine g_aload_n C 0 dX7_readPlainOne_91 rfl rfl ?_
        refine g_iload_n C 3 dX7_readPlainOne_92 rfl rfl ?_
        refine g_iconst C (v := 0) dX7_readPlainOne_93 (by decide) ?_
        refine g_iconst C (v := 0) dX7_readPlainOne_94 (by decide) ?_
        refine g_callVI C K (c_X7_addStep W9 hLx hkx a2 0 0 (rg_w rc_0 (by decide) (by decide)) hU  (fun q => absurd q n_37)) hLx hkx (by decide) rfl v_7_63 rfl ⟨rfl, rfl⟩ ⟨Nat.le_of_ble_eq_true rfl, Nat.le_of_ble_eq_true rfl⟩ (Nat.le_of_ble_eq_true rfl) ⟨Nat.le_of_ble_eq_true rfl, Nat.le_of_ble_eq_true rfl⟩ dX7_readPlainOne_95 rfl (st := []) (fun x_58 I_59 J_60 h_61 => ?_)
        obtain ⟨hUI_59, hFI_59, hGJ_60, rx_58⟩ := h_61
        have hF_62 := fq_tr hF hFI_59 (by decide)
        have hG_63 := fq_tr hG hGJ_60 (by decide)
        exact g_zret (ty := .boolean) (r := x_58) B K rfl (nar_z (rx_58)) ⟨hUI_59, hF_62, hG_63, rx_58⟩ dX7_readPlainOne_98
    · skip
      have r_64 := (⟨(eq_rg (h_36) rc_23).1, (eq_rg (h_36) rc_23).2⟩ : Rg 23 23 a2)
      refine g_aload_n C 1 dX7_readPlainOne_48 rfl rfl ?_
      refine g_aload_n C 2 dX7_readPlainOne_49 rfl rfl ?_
      refine g_aload_n C 1 dX7_readPlainOne_50 rfl rfl ?_
      obtain ⟨y_65, hy_65⟩ : ∃ z, J a0 10 = z := ⟨_, rfl⟩
      refine g_getJ C K hLa0 hka0 f_7_79 (v := y_65) hy_65 dX7_readPlainOne_51 ?_
      refine g_callVI C K (c_X8_dishNamed W9 hLa1 hka1 y_65  hU) hLa1 hka1 (by decide) rfl v_7_93 rfl ⟨rfl, rfl⟩ ⟨Nat.le_of_ble_eq_true rfl, Nat.le_of_ble_eq_true rfl⟩ (Nat.le_of_ble_eq_true rfl) ⟨Nat.le_of_ble_eq_true rfl, Nat.le_of_ble_eq_true rfl⟩ dX7_readPlainOne_54 rfl (st := [.ref a0]) (fun x_66 I_67 J_68 h_69 => ?_)
      obtain ⟨rfl, rfl, rx_66, fx_66⟩ := h_69
      refine g_callVI C K (c_X10_takeName W9 hLa0 hka0 x_66 (rg_w rx_66 (by decide) (by decide)) hU) hLa0 hka0 (by decide) rfl v_7_89 rfl ⟨rfl, rfl⟩ ⟨Nat.le_of_ble_eq_true rfl, Nat.le_of_ble_eq_true rfl⟩ (Nat.le_of_ble_eq_true rfl) ⟨Nat.le_of_ble_eq_true rfl, Nat.le_of_ble_eq_true rfl⟩ dX7_readPlainOne_57 rfl (st := []) (fun x_70 I_71 J_72 h_73 => ?_)
      obtain ⟨hUI_71, hFI_71, hGJ_72, rx_70, fx_70, ex_70⟩ := h_73
      have hF_74 := fq_tr hF hFI_71 (by decide)
      have hG_75 := fq_tr hG hGJ_72 (by decide)
      have r_76 : Rg (-1) 5 x_70 := rg_or ex_70 (rx_66) (by decide) (by decide)
      refine g_istore C dX7_readPlainOne_60 (by decide) (lo2 := [(4, .int x_70), (0, .ref x), (1, .ref a0), (2, .ref a1), (3, .int a2)]) rfl ?_
      refine g_iload C 0 dX7_readPlainOne_62 rfl ?_
      refine g_iconst C (v := (-1)) dX7_readPlainOne_64 (by decide) ?_
      refine g_icmp_eq C (tgt := 83) dX7_readPlainOne_65 (by decide) (fun h_77 => ?_) (fun h_77 => ?_)
      · skip
        have r_78 := (⟨(r_76).1, (eq_rg (h_77) rc_m1).2⟩ : Rg (-1) (-1) x_70)
        refine g_iconst C (v := 0) dX7_readPlainOne_83 (by decide) ?_
        exact g_zret (ty := .boolean) (r := 0) B K rfl (rfl) ⟨hUI_71, hF_74, hG_75, rg_w rc_0 (by decide) (by decide)⟩ dX7_readPlainOne_84
      · skip
        have n_79 : ¬ x_70 = (-1) := h_77
        have r_80 := ne_lo (lo := 0) n_79 r_76 rc_m1 rfl (by decide)
        have r_81 := eq_rg (Eq.symm (Or.resolve_left ex_70 (rg_nek r_80 rc_m1 (by decide)))) r_80
        refine g_aload_n C 1 dX7_readPlainOne_68 rfl rfl ?_
        refine g_iload_n C 4 dX7_readPlainOne_69 rfl rfl ?_
        refine g_iconst C (v := 0) dX7_readPlainOne_70 (by decide) ?_
        refine g_iload C 0 dX7_readPlainOne_71 rfl ?_
        refine g_callVI C K (c_X7_addStep W9 hLx hkx a2 0 x_70 (rg_w rc_0 (by decide) (by decide)) hUI_71  (fun _ => r_80)) hLx hkx (by decide) rfl v_7_63 rfl ⟨rfl, rfl⟩ ⟨Nat.le_of_ble_eq_true rfl, Nat.le_of_ble_eq_true rfl⟩ (Nat.le_of_ble_eq_true rfl) ⟨Nat.le_of_ble_eq_true rfl, Nat.le_of_ble_eq_true rfl⟩ dX7_readPlainOne_73 rfl (st := []) (fun x_82 I_83 J_84 h_85 => ?_)
        obtain ⟨hUI_83, hFI_83, hGJ_84, rx_82⟩ := h_85
        have hF_86 := fq_tr hF_74 hFI_83 (by decide)
        have hG_87 := fq_tr hG_75 hGJ_84 (by decide)
        refine g_if_eq C (tgt := 83) dX7_readPlainOne_76 (by decide) (fun h_88 => ?_) (fun h_88 => ?_)
        · skip
          have r_89 := (⟨(rx_82).1, (eq_rg (h_88) rc_0).2⟩ : Rg 0 0 x_82)
          refine g_iconst C (v := 0) dX7_readPlainOne_83 (by decide) ?_
          exact g_zret (ty := .boolean) (r := 0) B K rfl (rfl) ⟨hUI_83, hF_86, hG_87, rg_w rc_0 (by decide) (by decide)⟩ dX7_readPlainOne_84
        · skip
          have n_90 : ¬ x_82 = 0 := h_88
          have r_91 := ne_lo (lo := 1) n_90 rx_82 rc_0 rfl (by decide)
          refine g_iconst C (v := 1) dX7_readPlainOne_79 (by decide) ?_
          refine g_goto C (tgt := 84) dX7_readPlainOne_80 (by decide) ?_
          exact g_zret (ty := .boolean) (r := 1) B K rfl (rfl) ⟨hUI_83, hF_86, hG_87, rg_w rc_1 (by decide) (by decide)⟩ dX7_readPlainOne_84
  · skip
    have r_92 := (⟨(eq_rg (h_34) rc_5).1, (eq_rg (h_34) rc_5).2⟩ : Rg 5 5 a2)
    refine g_aload_n C 1 dX7_readPlainOne_5 rfl rfl ?_
    refine g_aload_n C 2 dX7_readPlainOne_6 rfl rfl ?_
    refine g_aload_n C 1 dX7_readPlainOne_7 rfl rfl ?_
    obtain ⟨y_93, hy_93⟩ : ∃ z, J a0 10 = z := ⟨_, rfl⟩
    refine g_getJ C K hLa0 hka0 f_7_79 (v := y_93) hy_93 dX7_readPlainOne_8 ?_
    refine g_callVI C K (c_X8_personNamed W9 hLa1 hka1 y_93  hU) hLa1 hka1 (by decide) rfl v_7_83 rfl ⟨rfl, rfl⟩ ⟨Nat.le_of_ble_eq_true rfl, Nat.le_of_ble_eq_true rfl⟩ (Nat.le_of_ble_eq_true rfl) ⟨Nat.le_of_ble_eq_true rfl, Nat.le_of_ble_eq_true rfl⟩ dX7_readPlainOne_11 rfl (st := [.ref a0]) (fun x_94 I_95 J_96 h_97 => ?_)
    obtain ⟨rfl, rfl, rx_94, fx_94⟩ := h_97
    refine g_callVI C K (c_X10_takeName W9 hLa0 hka0 x_94 (rx_94) hU) hLa0 hka0 (by decide) rfl v_7_89 rfl ⟨rfl, rfl⟩ ⟨Nat.le_of_ble_eq_true rfl, Nat.le_of_ble_eq_true rfl⟩ (Nat.le_of_ble_eq_true rfl) ⟨Nat.le_of_ble_eq_true rfl, Nat.le_of_ble_eq_true rfl⟩ dX7_readPlainOne_14 rfl (st := []) (fun x_98 I_99 J_100 h_101 => ?_)
    obtain ⟨hUI_99, hFI_99, hGJ_100, rx_98, fx_98, ex_98⟩ := h_101
    have hF_102 := fq_tr hF hFI_99 (by decide)
    have hG_103 := fq_tr hG hGJ_100 (by decide)
    have r_104 : Rg (-1) 6 x_98 := rg_or ex_98 (rx_94) (by decide) (by decide)
    refine g_istore C dX7_readPlainOne_17 (by decide) (lo2 := [(4, .int x_98), (0, .ref x), (1, .ref a0), (2, .ref a1), (3, .int a2)]) rfl ?_
    refine g_iload C 0 dX7_readPlainOne_19 rfl ?_
    refine g_iconst C (v := (-1)) dX7_readPlainOne_21 (by decide) ?_
    refine g_icmp_eq C (tgt := 40) dX7_readPlainOne_22 (by decide) (fun h_105 => ?_) (fun h_105 => ?_)
    · skip
      have r_106 := (⟨(r_104).1, (eq_rg (h_105) rc_m1).2⟩ : Rg (-1) (-1) x_98)
      refine g_iconst C (v := 0) dX7_readPlainOne_40 (by decide) ?_
      exact g_zret (ty := .boolean) (r := 0) B K rfl (rfl) ⟨hUI_99, hF_102, hG_103, rg_w rc_0 (by decide) (by decide)⟩ dX7_readPlainOne_41
    · skip
      have n_107 : ¬ x_98 = (-1) := h_105
      have r_108 := ne_lo (lo := 0) n_107 r_104 rc_m1 rfl (by decide)
      have r_109 := eq_rg (Eq.symm (Or.resolve_left ex_98 (rg_nek r_108 rc_m1 (by decide)))) r_108
      refine g_aload_n C 1 dX7_readPlainOne_25 rfl rfl ?_
      refine g_iload_n C 4 dX7_readPlainOne_26 rfl rfl ?_
      refine g_iconst C (v := 0) dX7_readPlainOne_27 (by decide) ?_
      refine g_iload C 0 dX7_readPlainOne_28 rfl ?_
      refine g_callVI C K (c_X7_addStep W9 hLx hkx a2 0 x_98 (rg_w rc_0 (by decide) (by decide)) hUI_99  (fun q => absurd q (rg_nek r_92 rc_23 (by decide)))) hLx hkx (by decide) rfl v_7_63 rfl ⟨rfl, rfl⟩ ⟨Nat.le_of_ble_eq_true rfl, Nat.le_of_ble_eq_true rfl⟩ (Nat.le_of_ble_eq_true rfl) ⟨Nat.le_of_ble_eq_true rfl, Nat.le_of_ble_eq_true rfl⟩ dX7_readPlainOne_30 rfl (st := []) (fun x_110 I_111 J_112 h_113 => ?_)
      obtain ⟨hUI_111, hFI_111, hGJ_112, rx_110⟩ := h_113
      have hF_114 := fq_tr hF_102 hFI_111 (by decide)
      have hG_115 := fq_tr hG_103 hGJ_112 (by decide)
      refine g_if_eq C (tgt := 40) dX7_readPlainOne_33 (by decide) (fun h_116 => ?_) (fun h_116 => ?_)
      · skip
        have r_117 := (⟨(rx_110).1, (eq_rg (h_116) rc_0).2⟩ : Rg 0 0 x_110)
        refine g_iconst C (v := 0) dX7_readPlainOne_40 (by decide) ?_
        exact g_zret (ty := .boolean) (r := 0) B K rfl (rfl) ⟨hUI_111, hF_114, hG_115, rg_w rc_0 (by decide) (by decide)⟩ dX7_readPlainOne_41
      · skip
        have n_118 : ¬ x_110 = 0 := h_116
        have r_119 := ne_lo (lo := 1) n_118 rx_110 rc_0 rfl (by decide)
        refine g_iconst C (v := 1) dX7_readPlainOne_36 (by decide) ?_
        refine g_goto C (tgt := 41) dX7_readPlainOne_37 (by decide) ?_
        exact g_zret (ty := .boolean) (r := 1) B K rfl (rfl) ⟨hUI_111, hF_114, hG_115, rg_w rc_1 (by decide) (by decide)⟩ dX7_readPlainOne_41
set_option maxRecDepth 100000 in
set_option maxHeartbeats 8000000 in
theorem c_X7_readOne_8 {l : Launch} {D : va_G} {cy : Nat → ClassId} {L : List Nat} {κ ln : Nat → Nat} {R : Nat → Nat → Option Nat} {I : Nat → Nat → Int32} {J : Nat → Nat → Int64} {ow : Nat → Nat × Nat} (W9 : ∀ a ∈ L, Shp L κ ln R ow a) {x : Nat} (hLx : x ∈ L) (hkx : κ x = 7) {a0 : Nat} (hLa0 : a0 ∈ L) (hka0 : κ a0 = 10) {a1 : Nat} (hLa1 : a1 ∈ L) (hka1 : κ a1 = 8) (a2 : Int32) (ra2 : Rg 8 8 a2) (hU : Iv L κ R ow I) : CtI l yX7_readOne cX7_readOne 5 (some .boolean) { frames := 4, cells := 0, slots := 0, locals := 95 } D cy L κ ln R I J [.ref x, .ref a0, .ref a1, .int a2] (fun r I2 J2 => Iv L κ R ow I2 ∧ Fq L κ ow [704, 705, 1007, 1008, 1009, 1011, 1012, 52000, 52100, 52200] I I2 ∧ Fq L κ ow [1010] J J2 ∧ Rg 0 1 r) := by
  refine CtI.of (by decide +kernel) (Nat.le_of_ble_eq_true rfl) ?_
  intro p e s m below meth c B K
  have C := B.1
  have hF : Fq L κ ow [704, 705, 1007, 1008, 1009, 1011, 1012, 52000, 52100, 52200] I I := fq_rf
  have hG : Fq L κ ow [1010] J J := fq_rf
  refine g_lo (is := [0, 1, 2, 3]) (lo2 := [(0, .ref x), (1, .ref a0), (2, .ref a1), (3, .int a2)]) rfl ?_
  have j_35 : ∀ (I_1 : Nat → Nat → Int32) (J_2 : Nat → Nat → Int64) (hU_3 : Iv L κ R ow I_1) (hF_4 : Fq L κ ow [704, 705, 1007, 1008, 1009, 1011, 1012, 52000, 52100, 52200] I I_1) (hG_5 : Fq L κ ow [1010] J J_2) (v_6 : Int32) (rv_6 : Rg 8 8 v_6) (v_7 : Int32) (v_8 : Int32) (rv_8 : Rg 20 2147483647 v_8) (q_9 : I_1 a0 8 = v_7) (q_10 : I_1 x 5 = v_8), WG p l e { frames := 4, cells := 0, slots := 0, locals := 95 } s m ([.ref x, .ref a0, .ref a1, .int a2] : List Value).toArray below meth c 5 0 0 (MQ below (Qi_ D cy L κ ln R (fun r I2 J2 => Iv L κ R ow I2 ∧ Fq L κ ow [704, 705, 1007, 1008, 1009, 1011, 1012, 52000, 52100, 52200] I I2 ∧ Fq L κ ow [1010] J J2 ∧ Rg 0 1 r)) ([.ref x, .ref a0, .ref a1, .int a2] : List Value).toArray s 0 0 (Al_ L)) D cy (Al_ L) s.heap L κ ln R I_1 J_2 35 [(0, .ref x), (1, .ref a0), (2, .ref a1), (3, .int v_6), (4, .int v_7)] [] := by
    intro I_1 J_2 hU_3 hF_4 hG_5 v_6 rv_6 v_7 v_8 rv_8 q_9 q_10
    refine g_aload_n C 1 dX7_readOne_35 rfl rfl ?_
    refine g_iconst C (v := 4) dX7_readOne_36 (by decide) ?_
    refine g_callVI C K (c_X10_fail W9 hLa0 hka0 4 (rg_w rc_4 (by decide) (by decide)) hU_3) hLa0 hka0 (by decide) rfl v_7_73 rfl ⟨rfl, rfl⟩ ⟨Nat.le_of_ble_eq_true rfl, Nat.le_of_ble_eq_true rfl⟩ (Nat.le_of_ble_eq_true rfl) ⟨Nat.le_of_ble_eq_true rfl, Nat.le_of_ble_eq_true rfl⟩ dX7_readOne_37 rfl (st := []) (fun x_11 I_12 J_13 h_14 => ?_)
    obtain ⟨hUI_12, hFI_12, hGJ_13, rx_11, fx_11⟩ := h_14
    have hF_15 := fq_tr hF_4 hFI_12 (by decide)
    have hG_16 := fq_tr hG_5 hGJ_13 (by decide)
    exact g_zret (ty := .boolean) (r := x_11) B K rfl (nar_z (rg_w rx_11 (by decide) (by decide))) ⟨hUI_12, hF_15, hG_16, rg_w rx_11 (by decide) (by decide)⟩ dX7_readOne_40
  refine g_aload_n C 1 dX7_readOne_0 rfl rfl ?_
  obtain ⟨x_17, hx_17, rx_17⟩ := ex_get (I := I) (a := a0) (j := 8) (lo := (-2147483648)) (hi := 2147483647) hU.1 hLa0 (ro_o hka0 (by decide)) rfl
  refine g_getI C K hLa0 hka0 f_7_57 (v := x_17) hx_17 dX7_readOne_1 ?_
  refine g_istore C dX7_readOne_4 (by decide) (lo2 := [(4, .int x_17), (0, .ref x), (1, .ref a0), (2, .ref a1), (3, .int a2)]) rfl ?_
  refine g_iload C 0 dX7_readOne_6 rfl ?_
  refine g_callSI C K (c_X7_beginsOne W9 x_17  hU) s_7_70 rfl ⟨rfl, rfl⟩ ⟨Nat.le_of_ble_eq_true rfl, Nat.le_of_ble_eq_true rfl⟩ (Nat.le_of_ble_eq_true rfl) ⟨Nat.le_of_ble_eq_true rfl, Nat.le_of_ble_eq_true rfl⟩ dX7_readOne_8 rfl (st := []) (fun x_18 I_19 J_20 h_21 => ?_)
  obtain ⟨rfl, rfl, rx_18⟩ := h_21
  refine g_if_ne C (tgt := 20) dX7_readOne_11 (by decide) (fun h_22 => ?_) (fun h_22 => ?_)
  · skip
    have n_23 : ¬ x_18 = 0 := h_22
    have r_24 := ne_lo (lo := 1) n_23 rx_18 rc_0 rfl (by decide)
    refine g_aload_n C 1 dX7_readOne_20 rfl rfl ?_
    obtain ⟨x_25, hx_25, rx_25⟩ := ex_get (I := I) (a := x) (j := 5) (lo := (-2147483648)) (hi := 2147483647) hU.1 hLx (ro_o hkx (by decide)) rfl
    refine g_getI C K hLx hkx f_7_28 (v := x_25) hx_25 dX7_readOne_21 ?_
    refine g_bipush C (v := 20) dX7_readOne_24 (by decide) ?_
    refine g_icmp_ge C (tgt := 35) dX7_readOne_26 (by decide) (fun h_26 => ?_) (fun h_26 => ?_)
    · skip
      have r_27 := le_r (h_26) rc_20 rx_25
      refine g_lo (is := [1, 2, 3, 4, 0]) (lo2 := [(0, .ref x), (1, .ref a0), (2, .ref a1), (3, .int a2), (4, .int x_17)]) rfl ?_
      exact j_35 I J hU hF hG a2 (ra2) x_17 x_25 (r_27) hx_17 hx_25
    · skip
      have r_28 := lt_l (hi := 19) (nle h_26) rx_25 rc_20 (by decide)
      refine g_iload_n C 4 dX7_readOne_29 rfl rfl ?_
      refine g_bipush C (v := 8) dX7_readOne_30 (by decide) ?_
      refine g_icmp_le C (tgt := 41) dX7_readOne_32 (by decide) (fun h_29 => ?_) (fun h_29 => ?_)
      · skip
        refine g_aload_n C 1 dX7_readOne_41 rfl rfl ?_
        refine g_dup C dX7_readOne_42 rfl ?_
        refine g_getI C K hLx hkx f_7_28 (v := x_25) hx_25 dX7_readOne_43 ?_
        refine g_iconst C (v := 1) dX7_readOne_46 (by decide) ?_
        obtain ⟨x_30, hx_30, rx_30, tx_30⟩ := ex_add (-2147483647) 20 r_28 rc_1 (by decide) (by decide) (by decide) (by decide)
        refine g_iadd C (v := x_30) dX7_readOne_47 hx_30 ?_
        refine h_putI C K hLx hkx f_7_28 p_7_5 dX7_readOne_48 (fun I_31 hI_31 => ?_)
        have hU_32 := iv_put W9 hU hI_31 (ro_o hkx (by decide)) (lo := (-2147483648)) (hi := 2147483647) (rfl) (rg_all _) rfl
        have hF_33 := fq_puto hF hI_31 hkx (by decide) (by decide)
        refine g_aload_n C 2 dX7_readOne_51 rfl rfl ?_
        refine g_callVV C K (c_X10_advance W9 hLa0 hka0   hU_32) hLa0 hka0 (by decide) rfl v_7_60 rfl ⟨rfl, rfl⟩ ⟨Nat.le_of_ble_eq_true rfl, Nat.le_of_ble_eq_true rfl⟩ (Nat.le_of_ble_eq_true rfl) ⟨Nat.le_of_ble_eq_true rfl, Nat.le_of_ble_eq_true rfl⟩ dX7_readOne_52 rfl (st := []) (fun I_35 J_36 h_37 => ?_)
        obtain ⟨hUI_35, hFI_35, hGJ_36, fx_34⟩ := h_37
        have hF_38 := fq_tr hF_33 hFI_35 (by decide)
        have hG_39 := fq_tr hG hGJ_36 (by decide)
        refine g_iload C 0 dX7_readOne_55 rfl ?_
        refine g_bipush C (v := 40) dX7_readOne_57 (by decide) ?_
        refine g_icmp_ne C (tgt := 89) dX7_readOne_59 (by decide) (fun h_40 => ?_) (fun h_40 => ?_)
        · skip
          have n_41 : ¬ x_17 = 40 := h_40
          refine g_iload C 0 dX7_readOne_89 rfl ?_
          refine g_bipush C (v := 19) dX7_readOne_91 (by decide) ?_
          refine g_icmp_ne C (tgt := 125) dX7_readOne_93 (by decide) (fun h_42 => ?_) (fun h_42 => ?_)
          · skip
            have n_43 : ¬ x_17 = 19 := h_42
            refine g_aload_n C 1 dX7_readOne_125 rfl rfl ?_
            refine g_aload_n C 2 dX7_readOne_126 rfl rfl ?_
            refine g_aload_n C 3 dX7_readOne_127 rfl rfl ?_
            refine g_iload C 0 dX7_readOne_128 rfl ?_
            refine g_callVI C K (c_X7_readPlainOne W9 hLx hkx hLa0 hka0 hLa1 hka1 x_17  hUI_35) hLx hkx (by decide) rfl v_7_76 rfl ⟨rfl, rfl⟩ ⟨Nat.le_of_ble_eq_true rfl, Nat.le_of_ble_eq_true rfl⟩ (Nat.le_of_ble_eq_true rfl) ⟨Nat.le_of_ble_eq_true rfl, Nat.le_of_ble_eq_true rfl⟩ dX7_readOne_130 rfl (st := []) (fun x_44 I_45 J_46 h_47 => ?_)
            obtain ⟨hUI_45, hFI_45, hGJ_46, rx_44⟩ := h_47
            have hF_48 := fq_tr hF_38 hFI_45 (by decide)
            have hG_49 := fq_tr hG_39 hGJ_46 (by decide)
            exact g_zret (ty := .boolean) (r := x_44) B K rfl (nar_z (rx_44)) ⟨hUI_45, hF_48, hG_49, rx_44⟩ dX7_readOne_133
          · skip
            have r_50 := (⟨(eq_rg (h_42) rc_19).1, (eq_rg (h_42) rc_19).2⟩ : Rg 19 19 x_17)
            refine g_aload_n C 1 dX7_readOne_96 rfl rfl ?_
            refine g_aload_n C 2 dX7_readOne_97 rfl rfl ?_
            refine g_aload_n C 3 dX7_readOne_98 rfl rfl ?_
            refine g_iload_n C 4 dX7_readOne_99 rfl rfl ?_
            refine g_iconst C (v := 1) dX7_readOne_100 (by decide) ?_
            obtain ⟨x_51, hx_51, rx_51, tx_51⟩ := ex_add 9 9 ra2 rc_1 (by decide) (by decide) (by decide) (by decide)
            refine g_iadd C (v := x_51) dX7_readOne_101 hx_51 ?_
            refine g_callVI C K (c_X7_readOne_9 W9 hLx hkx hLa0 hka0 hLa1 hka1 x_51 (rx_51) hUI_35) hLx hkx (by decide) rfl v_7_67 rfl ⟨rfl, rfl⟩ ⟨Nat.le_of_ble_eq_true rfl, Nat.le_of_ble_eq_true rfl⟩ (Nat.le_of_ble_eq_true rfl) ⟨Nat.le_of_ble_eq_true rfl, Nat.le_of_ble_eq_true rfl⟩ dX7_readOne_102 rfl (st := []) (fun x_52 I_53 J_54 h_55 => ?_)
            obtain ⟨hUI_53, hFI_53, hGJ_54, rx_52⟩ := h_55
            have hF_56 := fq_tr hF_38 hFI_53 (by decide)
            have hG_57 := fq_tr hG_39 hGJ_54 (by decide)
            refine g_if_eq C (tgt := 123) dX7_readOne_105 (by decide) (fun h_58 => ?_) (fun h_58 => ?_)
            · skip
              refine g_iconst C (v := 0) dX7_readOne_123 (by decide) ?_
              exact g_zret (ty := .boolean) (r := 0) B K rfl (rfl) ⟨hUI_53, hF_56, hG_57, rg_w rc_0 (by decide) (by decide)⟩ dX7_readOne_124
            · skip
              exact ne_no (h_58) rx_52 rc_0
        · skip
          have r_59 := (⟨(eq_rg (h_40) rc_40).1, (eq_rg (h_40) rc_40).2⟩ : Rg 40 40 x_17)
          refine g_aload_n C 1 dX7_readOne_62 rfl rfl ?_
          refine g_aload_n C 2 dX7_readOne_63 rfl rfl ?_
          refine g_aload_n C 3 dX7_readOne_64 rfl rfl ?_
          refine g_iload_n C 4 dX7_readOne_65 rfl rfl ?_
          refine g_iconst C (v := 1) dX7_readOne_66 (by decide) ?_
          obtain ⟨x_60, hx_60, rx_60, tx_60⟩ := ex_add 9 9 ra2 rc_1 (by decide) (by decide) (by decide) (by decide)
          refine g_iadd C (v := x_60) dX7_readOne_67 hx_60 ?_
          refine g_callVI C K (c_X7_readCond_9 W9 hLx hkx hLa0 hka0 hLa1 hka1 x_60 (rx_60) hUI_35) hLx hkx (by decide) rfl v_7_46 rfl ⟨rfl, rfl⟩ ⟨Nat.le_of_ble_eq_true rfl, Nat.le_of_ble_eq_true rfl⟩ (Nat.le_of_ble_eq_true rfl) ⟨Nat.le_of_ble_eq_true rfl, Nat.le_of_ble_eq_true rfl⟩ dX7_readOne_68 rfl (st := []) (fun x_61 I_62 J_63 h_64 => ?_)
          obtain ⟨hUI_62, hFI_62, hGJ_63, rx_61⟩ := h_64
          have hF_65 := fq_tr hF_38 hFI_62 (by decide)
          have hG_66 := fq_tr hG_39 hGJ_63 (by decide)
          refine g_if_eq C (tgt := 87) dX7_readOne_71 (by decide) (fun h_67 => ?_) (fun h_67 => ?_)
          · skip
            refine g_iconst C (v := 0) dX7_readOne_87 (by decide) ?_
            exact g_zret (ty := .boolean) (r := 0) B K rfl (rfl) ⟨hUI_62, hF_65, hG_66, rg_w rc_0 (by decide) (by decide)⟩ dX7_readOne_88
          · skip
            exact ne_no (h_67) rx_61 rc_0
      · skip
        have r_68 := lt_r (lo := 9) (nle h_29) rc_8 ra2 (by decide)
        exact rg_no r_68 (by decide)
  · skip
    have r_69 := (⟨(rx_18).1, (eq_rg (h_22) rc_0).2⟩ : Rg 0 0 x_18)
    refine g_aload_n C 2 dX7_readOne_14 rfl rfl ?_
    refine g_iconst C (v := 1) dX7_readOne_15 (by decide) ?_
    refine g_callVI C K (c_X10_fail W9 hLa0 hka0 1 (rg_w rc_1 (by decide) (by decide)) hU) hLa0 hka0 (by decide) rfl v_7_73 rfl ⟨rfl, rfl⟩ ⟨Nat.le_of_ble_eq_true rfl, Nat.le_of_ble_eq_true rfl⟩ (Nat.le_of_ble_eq_true rfl) ⟨Nat.le_of_ble_eq_true rfl, Nat.le_of_ble_eq_true rfl⟩ dX7_readOne_16 rfl (st := []) (fun x_70 I_71 J_72 h_73 => ?_)
    obtain ⟨hUI_71, hFI_71, hGJ_72, rx_70, fx_70⟩ := h_73
    have hF_74 := fq_tr hF hFI_71 (by decide)
    have hG_75 := fq_tr hG hGJ_72 (by decide)
    exact g_zret (ty := .boolean) (r := x_70) B K rfl (nar_z (rg_w rx_70 (by decide) (by decide))) ⟨hUI_71, hF_74, hG_75, rg_w rx_70 (by decide) (by decide)⟩ dX7_readOne_19
set_option maxRecDepth 100000 in
set_option maxHeartbeats 8000000 in
theorem c_X7_readAll_8 {l : Launch} {D : va_G} {cy : Nat → ClassId} {L : List Nat} {κ ln : Nat → Nat} {R : Nat → Nat → Option Nat} {I : Nat → Nat → Int32} {J : Nat → Nat → Int64} {ow : Nat → Nat × Nat} (W9 : ∀ a ∈ L, Shp L κ ln R ow a) {x : Nat} (hLx : x ∈ L) (hkx : κ x = 7) {a0 : Nat} (hLa0 : a0 ∈ L) (hka0 : κ a0 = 10) {a1 : Nat} (hLa1 : a1 ∈ L) (hka1 : κ a1 = 8) (a2 : Int32) (ra2 : Rg 8 8 a2) (hU : Iv L κ R ow I) : CtI l yX7_readAll cX7_readAll 6 (some .boolean) { frames := 5, cells := 0, slots := 0, locals := 119 } D cy L κ ln R I J [.ref x, .ref a0, .ref a1, .int a2] (fun r I2 J2 => Iv L κ R ow I2 ∧ Fq L κ ow [704, 705, 1007, 1008, 1009, 1011, 1012, 52000, 52100, 52200] I I2 ∧ Fq L κ ow [1010] J J2 ∧ Rg 0 1 r) := by
  refine CtI.of (by decide +kernel) (Nat.le_of_ble_eq_true rfl) ?_
  intro p e s m below meth c B K
  have C := B.1
  have hF : Fq L κ ow [704, 705, 1007, 1008, 1009, 1011, 1012, 52000, 52100, 52200] I I := fq_rf
  have hG : Fq L κ ow [1010] J J := fq_rf
  refine g_lo (is := [0, 1, 2, 3]) (lo2 := [(0, .ref x), (1, .ref a0), (2, .ref a1), (3, .int a2)]) rfl ?_
  have l_12 : ∀ (n_12 : Nat) (I_1 : Nat → Nat → Int32) (J_2 : Nat → Nat → Int64) (hU_3 : Iv L κ R ow I_1) (hF_4 : Fq L κ ow [704, 705, 1007, 1008, 1009, 1011, 1012, 52000, 52100, 52200] I I_1) (hG_5 : Fq L κ ow [1010] J J_2) (v_6 : Int32) (rv_6 : Rg 8 8 v_6) (v_7 : Int32) (rv_7 : Rg 0 1 v_7) (v_8 : Int32) (rv_8 : Rg 0 20 v_8) (hm_9 : 20 < (v_8 : Int32).toInt + (n_12 : Int)), WG p l e { frames := 5, cells := 0, slots := 0, locals := 119 } s m ([.ref x, .ref a0, .ref a1, .int a2] : List Value).toArray below meth c 6 0 0 (MQ below (Qi_ D cy L κ ln R (fun r I2 J2 => Iv L κ R ow I2 ∧ Fq L κ ow [704, 705, 1007, 1008, 1009, 1011, 1012, 52000, 52100, 52200] I I2 ∧ Fq L κ ow [1010] J J2 ∧ Rg 0 1 r)) ([.ref x, .ref a0, .ref a1, .int a2] : List Value).toArray s 0 0 (Al_ L)) D cy (Al_ L) s.heap L κ ln R I_1 J_2 12 [(0, .ref x), (1, .ref a0), (2, .ref a1), (3, .int v_6), (4, .int v_7), (5, .int v_8)] [] := by
    intro n_12
    induction n_12 with
    | zero =>
      intro I_1 J_2 hU_3 hF_4 hG_5 v_6 rv_6 v_7 rv_7 v_8 rv_8 hm_9
      exact ms_0 rv_8 hm_9
    | succ n_12 ih_12 =>
      intro I_1 J_2 hU_3 hF_4 hG_5 v_6 rv_6 v_7 rv_7 v_8 rv_8 hm_9
      have j_62 : ∀ (I_10 : Nat → Nat → Int32) (J_11 : Nat → Nat → Int64) (hU_12 : Iv L κ R ow I_10) (hF_13 : Fq L κ ow [704, 705, 1007, 1008, 1009, 1011, 1012, 52000, 52100, 52200] I I_10) (hG_14 : Fq L κ ow [1010] J J_11) (v_15 : Int32) (rv_15 : Rg 8 8 v_15) (v_16 : Int32) (rv_16 : Rg 1 1 v_16) (nv_16_0 : ¬ v_16 = 0) (v_17 : Int32) (rv_17 : Rg 0 19 v_17) (hm_18 : 20 < (v_17 : Int32).toInt + ((n_12 + 1 : Nat) : Int)), WG p l e { frames := 5, cells := 0, slots := 0, locals := 119 } s m ([.ref x, .ref a0, .ref a1, .int a2] : List Value).toArray below meth c 6 0 0 (MQ below (Qi_ D cy L κ ln R (fun r I2 J2 => Iv L κ R ow I2 ∧ Fq L κ ow [704, 705, 1007, 1008, 1009, 1011, 1012, 52000, 52100, 52200] I I2 ∧ Fq L κ ow [1010] J J2 ∧ Rg 0 1 r)) ([.ref x, .ref a0, .ref a1, .int a2] : List Value).toArray s 0 0 (Al_ L)) D cy (Al_ L) s.heap L κ ln R I_10 J_11 62 [(0, .ref x), (1, .ref a0), (2, .ref a1), (3, .int v_15), (4, .int v_16), (5, .int v_17)] [] := by
        intro I_10 J_11 hU_12 hF_13 hG_14 v_15 rv_15 v_16 rv_16 nv_16_0 v_17 rv_17 hm_18
        refine g_iconst C (v := 0) dX7_readAll_62 (by decide) ?_
        refine g_istore C dX7_readAll_63 (by decide) (lo2 := [(4, .int 0), (0, .ref x), (1, .ref a0), (2, .ref a1), (3, .int v_15), (5, .int v_17)]) rfl ?_
        obtain ⟨x_19, hx_19, rx_19, tx_19⟩ := ex_add (y := 1) 1 20 rv_17 rc_1 (by decide) (by decide) (by decide) (by decide)
        refine g_iinc C dX7_readAll_65 (k := 5) (v := x_19) rfl hx_19 (by decide) (lo2 := [(5, .int x_19), (4, .int 0), (0, .ref x), (1, .ref a0), (2, .ref a1), (3, .int v_15)]) rfl ?_
        refine g_goto C (tgt := 12) dX7_readAll_68 (by decide) ?_
        refine g_lo (is := [2, 3, 4, 5, 1, 0]) (lo2 := [(0, .ref x), (1, .ref a0), (2, .ref a1), (3, .int v_15), (4, .int 0), (5, .int x_19)]) rfl ?_
        exact ih_12 I_10 J_11 hU_12 hF_13 hG_14 v_15 (rv_15) 0 (rg_w rc_0 (by decide) (by decide)) x_19 (rg_w rx_19 (by decide) (by decide)) (ms_1 hm_18 (ti_k tx_19 rc_1) (by decide))
      refine g_iload C 5 dX7_readAll_12 rfl ?_
      refine g_bipush C (v := 20) dX7_readAll_14 (by decide) ?_
      refine g_icmp_ge C (tgt := 71) dX7_readAll_16 (by decide) (fun h_20 => ?_) (fun h_20 => ?_)
      · skip
        have r_21 := le_r (h_20) rc_20 rv_8
        refine g_iload C 4 dX7_readAll_71 rfl ?_
        exact g_zret (ty := .boolean) (r := v_7) B K rfl (nar_z (rv_7)) ⟨hU_3, hF_4, hG_5, rv_7⟩ dX7_readAll_73
      · skip
        have r_22 := lt_l (hi := 19) (nle h_20) rv_8 rc_20 (by decide)
        refine g_iload C 4 dX7_readAll_19 rfl ?_
        refine g_if_eq C (tgt := 71) dX7_readAll_21 (by decide) (fun h_23 => ?_) (fun h_23 => ?_)
        · skip
          have r_24 := (⟨(rv_7).1, (eq_rg (h_23) rc_0).2⟩ : Rg 0 0 v_7)
          refine g_iload C 4 dX7_readAll_71 rfl ?_
          exact g_zret (ty := .boolean) (r := v_7) B K rfl (nar_z (rg_w r_24 (by decide) (by decide))) ⟨hU_3, hF_4, hG_5, rg_w r_24 (by decide) (by decide)⟩ dX7_readAll_73
        · skip
          have n_25 : ¬ v_7 = 0 := h_23
          have r_26 := ne_lo (lo := 1) n_25 rv_7 rc_0 rfl (by decide)
          refine g_aload_n C 1 dX7_readAll_24 rfl rfl ?_
          obtain ⟨x_27, hx_27, rx_27⟩ := ex_get (I := I_1) (a := a0) (j := 8) (lo := (-2147483648)) (hi := 2147483647) hU_3.1 hLa0 (ro_o hka0 (by decide)) rfl
          refine g_getI C K hLa0 hka0 f_7_57 (v := x_27) hx_27 dX7_readAll_25 ?_
          refine g_bipush C (v := 18) dX7_readAll_28 (by decide) ?_
          refine g_icmp_ne C (tgt := 71) dX7_readAll_30 (by decide) (fun h_28 => ?_) (fun h_28 => ?_)
          · skip
            have n_29 : ¬ x_27 = 18 := h_28
            refine g_iload C 4 dX7_readAll_71 rfl ?_
            exact g_zret (ty := .boolean) (r := v_7) B K rfl (nar_z (rg_w r_26 (by decide) (by decide))) ⟨hU_3, hF_4, hG_5, rg_w r_26 (by decide) (by decide)⟩ dX7_readAll_73
          · skip
            have r_30 := (⟨(eq_rg (h_28) rc_18).1, (eq_rg (h_28) rc_18).2⟩ : Rg 18 18 x_27)
            refine g_aload_n C 1 dX7_readAll_33 rfl rfl ?_
            refine g_callVV C K (c_X10_advance W9 hLa0 hka0   hU_3) hLa0 hka0 (by decide) rfl v_7_60 rfl ⟨rfl, rfl⟩ ⟨Nat.le_of_ble_eq_true rfl, Nat.le_of_ble_eq_true rfl⟩ (Nat.le_of_ble_eq_true rfl) ⟨Nat.le_of_ble_eq_true rfl, Nat.le_of_ble_eq_true rfl⟩ dX7_readAll_34 rfl (st := []) (fun I_32 J_33 h_34 => ?_)
            obtain ⟨hUI_32, hFI_32, hGJ_33, fx_31⟩ := h_34
            have hF_35 := fq_tr hF_4 hFI_32 (by decide)
            have hG_36 := fq_tr hG_5 hGJ_33 (by decide)
            refine g_aload_n C 0 dX7_readAll_37 rfl rfl ?_
            refine g_aload_n C 1 dX7_readAll_38 rfl rfl ?_
            refine g_aload_n C 2 dX7_readAll_39 rfl rfl ?_
            refine g_iload_n C 3 dX7_readAll_40 rfl rfl ?_
            refine g_callVI C K (c_X7_readOne_8 W9 hLx hkx hLa0 hka0 hLa1 hka1 v_6 (rv_6) hUI_32) hLx hkx (by decide) rfl v_7_67 rfl ⟨rfl, rfl⟩ ⟨Nat.le_of_ble_eq_true rfl, Nat.le_of_ble_eq_true rfl⟩ (Nat.le_of_ble_eq_true rfl) ⟨Nat.le_of_ble_eq_true rfl, Nat.le_of_ble_eq_true rfl⟩ dX7_readAll_41 rfl (st := []) (fun x_37 I_38 J_39 h_40 => ?_)
            obtain ⟨hUI_38, hFI_38, hGJ_39, rx_37⟩ := h_40
            have hF_41 := fq_tr hF_35 hFI_38 (by decide)
            have hG_42 := fq_tr hG_36 hGJ_39 (by decide)
            refine g_if_eq C (tgt := 62) dX7_readAll_44 (by decide) (fun h_43 => ?_) (fun h_43 => ?_)
            · skip
              have r_44 := (⟨(rx_37).1, (eq_rg (h_43) rc_0).2⟩ : Rg 0 0 x_37)
              refine g_lo (is := [0, 1, 2, 3, 4, 5]) (lo2 := [(0, .ref x), (1, .ref a0), (2, .ref a1), (3, .int v_6), (4, .int v_7), (5, .int v_8)]) rfl ?_
              exact j_62 I_38 J_39 hUI_38 hF_41 hG_42 v_6 (rv_6) v_7 (r_26) (n_25) v_8 (r_22) hm_9
            · skip
              have n_45 : ¬ x_37 = 0 := h_43
              have r_46 := ne_lo (lo := 1) n_45 rx_37 rc_0 rfl (by decide)
              refine g_aload_n C 0 dX7_readAll_47 rfl rfl ?_
              refine g_bipush C (v := 18) dX7_readAll_48 (by decide) ?_
              refine g_iconst C (v := 0) dX7_readAll_50 (by decide) ?_
              refine g_iconst C (v := 0) dX7_readAll_51 (by decide) ?_
              refine g_callVI C K (c_X7_addStep W9 hLx hkx 18 0 0 (rg_w rc_0 (by decide) (by decide)) hUI_38  (fun q => absurd q (by decide))) hLx hkx (by decide) rfl v_7_63 rfl ⟨rfl, rfl⟩ ⟨Nat.le_of_ble_eq_true rfl, Nat.le_of_ble_eq_true rfl⟩ (Nat.le_of_ble_eq_true rfl) ⟨Nat.le_of_ble_eq_true rfl, Nat.le_of_ble_eq_true rfl⟩ dX7_readAll_52 rfl (st := []) (fun x_47 I_48 J_49 h_50 => ?_)
              obtain ⟨hUI_48, hFI_48, hGJ_49, rx_47⟩ := h_50
              have hF_51 := fq_tr hF_41 hFI_48 (by decide)
              have hG_52 := fq_tr hG_42 hGJ_49 (by decide)
              refine g_if_eq C (tgt := 62) dX7_readAll_55 (by decide) (fun h_53 => ?_) (fun h_53 => ?_)
              · skip
                have r_54 := (⟨(rx_47).1, (eq_rg (h_53) rc_0).2⟩ : Rg 0 0 x_47)
                refine g_lo (is := [0, 1, 2, 3, 4, 5]) (lo2 := [(0, .ref x), (1, .ref a0), (2, .ref a1), (3, .int v_6), (4, .int v_7), (5, .int v_8)]) rfl ?_
                exact j_62 I_48 J_49 hUI_48 hF_51 hG_52 v_6 (rv_6) v_7 (r_26) (n_25) v_8 (r_22) hm_9
              · skip
                have n_55 : ¬ x_47 = 0 := h_53
                have r_56 := ne_lo (lo := 1) n_55 rx_47 rc_0 rfl (by decide)
                refine g_iconst C (v := 1) dX7_readAll_58 (by decide) ?_
                refine g_goto C (tgt := 63) dX7_readAll_59 (by decide) ?_
                refine g_istore C dX7_readAll_63 (by decide) (lo2 := [(4, .int 1), (0, .ref x), (1, .ref a0), (2, .ref a1), (3, .int v_6), (5, .int v_8)]) rfl ?_
                obtain ⟨x_57, hx_57, rx_57, tx_57⟩ := ex_add (y := 1) 1 20 r_22 rc_1 (by decide) (by decide) (by decide) (by decide)
                refine g_iinc C dX7_readAll_65 (k := 5) (v := x_57) rfl hx_57 (by decide) (lo2 := [(5, .int x_57), (4, .int 1), (0, .ref x), (1, .ref a0), (2, .ref a1), (3, .int v_6)]) rfl ?_
                refine g_goto C (tgt := 12) dX7_readAll_68 (by decide) ?_
                refine g_lo (is := [2, 3, 4, 5, 1, 0]) (lo2 := [(0, .ref x), (1, .ref a0), (2, .ref a1), (3, .int v_6), (4, .int 1), (5, .int x_57)]) rfl ?_
                exact ih_12 I_48 J_49 hUI_48 hF_51 hG_52 v_6 (rv_6) 1 (rg_w rc_1 (by decide) (by decide)) x_57 (rg_w rx_57 (by decide) (by decide)) (ms_1 hm_9 (ti_k tx_57 rc_1) (by decide))
  refine g_aload_n C 0 dX7_readAll_0 rfl rfl ?_
  refine g_aload_n C 1 dX7_readAll_1 rfl rfl ?_
  refine g_aload_n C 2 dX7_readAll_2 rfl rfl ?_
  refine g_iload_n C 3 dX7_readAll_3 rfl rfl ?_
  refine g_callVI C K (c_X7_readOne_8 W9 hLx hkx hLa0 hka0 hLa1 hka1 a2 (ra2) hU) hLx hkx (by decide) rfl v_7_67 rfl ⟨rfl, rfl⟩ ⟨Nat.le_of_ble_eq_true rfl, Nat.le_of_ble_eq_true rfl⟩ (Nat.le_of_ble_eq_true rfl) ⟨Nat.le_of_ble_eq_true rfl, Nat.le_of_ble_eq_true rfl⟩ dX7_readAll_4 rfl (st := []) (fun x_58 I_59 J_60 h_61 => ?_)
  obtain ⟨hUI_59, hFI_59, hGJ_60, rx_58⟩ := h_61
  have hF_62 := fq_tr hF hFI_59 (by decide)
  have hG_63 := fq_tr hG hGJ_60 (by decide)
  refine g_istore C dX7_readAll_7 (by decide) (lo2 := [(4, .int x_58), (0, .ref x), (1, .ref a0), (2, .ref a1), (3, .int a2)]) rfl ?_
  refine g_iconst C (v := 0) dX7_readAll_9 (by decide) ?_
  refine g_istore C dX7_readAll_10 (by decide) (lo2 := [(5, .int 0), (4, .int x_58), (0, .ref x), (1, .ref a0), (2, .ref a1), (3, .int a2)]) rfl ?_
  refine g_lo (is := [2, 3, 4, 5, 1, 0]) (lo2 := [(0, .ref x), (1, .ref a0), (2, .ref a1), (3, .int a2), (4, .int x_58), (5, .int 0)]) rfl ?_
  exact l_12 21 I_59 J_60 hUI_59 hF_62 hG_63 a2 (ra2) x_58 (rx_58) 0 (rg_w rc_0 (by decide) (by decide)) (ms_s (a := 0) (b := 20) (N := 21) (rg_w rc_0 (by decide) (by decide)) (by decide))
set_option maxRecDepth 100000 in
set_option maxHeartbeats 8000000 in
theorem c_X7_readCond_8 {l : Launch} {D : va_G} {cy : Nat → ClassId} {L : List Nat} {κ ln : Nat → Nat} {R : Nat → Nat → Option Nat} {I : Nat → Nat → Int32} {J : Nat → Nat → Int64} {ow : Nat → Nat × Nat} (W9 : ∀ a ∈ L, Shp L κ ln R ow a) {x : Nat} (hLx : x ∈ L) (hkx : κ x = 7) {a0 : Nat} (hLa0 : a0 ∈ L) (hka0 : κ a0 = 10) {a1 : Nat} (hLa1 : a1 ∈ L) (hka1 : κ a1 = 8) (a2 : Int32) (ra2 : Rg 8 8 a2) (hU : Iv L κ R ow I) : CtI l yX7_readCond cX7_readCond 6 (some .boolean) { frames := 6, cells := 0, slots := 0, locals := 144 } D cy L κ ln R I J [.ref x, .ref a0, .ref a1, .int a2] (fun r I2 J2 => Iv L κ R ow I2 ∧ Fq L κ ow [704, 705, 1007, 1008, 1009, 1011, 1012, 52000, 52100, 52200] I I2 ∧ Fq L κ ow [1010] J J2 ∧ Rg 0 1 r) := by
  refine CtI.of (by decide +kernel) (Nat.le_of_ble_eq_true rfl) ?_
  intro p e s m below meth c B K
  have C := B.1
  have hF : Fq L κ ow [704, 705, 1007, 1008, 1009, 1011, 1012, 52000, 52100, 52200] I I := fq_rf
  have hG : Fq L κ ow [1010] J J := fq_rf
  refine g_lo (is := [0, 1, 2, 3]) (lo2 := [(0, .ref x), (1, .ref a0), (2, .ref a1), (3, .int a2)]) rfl ?_
  have l_12 : ∀ (n_12 : Nat) (I_1 : Nat → Nat → Int32) (J_2 : Nat → Nat → Int64) (hU_3 : Iv L κ R ow I_1) (hF_4 : Fq L κ ow [704, 705, 1007, 1008, 1009, 1011, 1012, 52000, 52100, 52200] I I_1) (hG_5 : Fq L κ ow [1010] J J_2) (v_6 : Int32) (rv_6 : Rg 8 8 v_6) (v_7 : Int32) (rv_7 : Rg 0 1 v_7) (v_8 : Int32) (rv_8 : Rg 0 20 v_8) (hm_9 : 20 < (v_8 : Int32).toInt + (n_12 : Int)), WG p l e { frames := 6, cells := 0, slots := 0, locals := 144 } s m ([.ref x, .ref a0, .ref a1, .int a2] : List Value).toArray below meth c 6 0 0 (MQ below (Qi_ D cy L κ ln R (fun r I2 J2 => Iv L κ R ow I2 ∧ Fq L κ ow [704, 705, 1007, 1008, 1009, 1011, 1012, 52000, 52100, 52200] I I2 ∧ Fq L κ ow [1010] J J2 ∧ Rg 0 1 r)) ([.ref x, .ref a0, .ref a1, .int a2] : List Value).toArray s 0 0 (Al_ L)) D cy (Al_ L) s.heap L κ ln R I_1 J_2 12 [(0, .ref x), (1, .ref a0), (2, .ref a1), (3, .int v_6), (4, .int v_7), (5, .int v_8)] [] := by
    intro n_12
    induction n_12 with
    | zero =>
      intro I_1 J_2 hU_3 hF_4 hG_5 v_6 rv_6 v_7 rv_7 v_8 rv_8 hm_9
      exact ms_0 rv_8 hm_9
    | succ n_12 ih_12 =>
      intro I_1 J_2 hU_3 hF_4 hG_5 v_6 rv_6 v_7 rv_7 v_8 rv_8 hm_9
      have j_62 : ∀ (I_10 : Nat → Nat → Int32) (J_11 : Nat → Nat → Int64) (hU_12 : Iv L κ R ow I_10) (hF_13 : Fq L κ ow [704, 705, 1007, 1008, 1009, 1011, 1012, 52000, 52100, 52200] I I_10) (hG_14 : Fq L κ ow [1010] J J_11) (v_15 : Int32) (rv_15 : Rg 8 8 v_15) (v_16 : Int32) (rv_16 : Rg 1 1 v_16) (nv_16_0 : ¬ v_16 = 0) (v_17 : Int32) (rv_17 : Rg 0 19 v_17) (hm_18 : 20 < (v_17 : Int32).toInt + ((n_12 + 1 : Nat) : Int)), WG p l e { frames := 6, cells := 0, slots := 0, locals := 144 } s m ([.ref x, .ref a0, .ref a1, .int a2] : List Value).toArray below meth c 6 0 0 (MQ below (Qi_ D cy L κ ln R (fun r I2 J2 => Iv L κ R ow I2 ∧ Fq L κ ow [704, 705, 1007, 1008, 1009, 1011, 1012, 52000, 52100, 52200] I I2 ∧ Fq L κ ow [1010] J J2 ∧ Rg 0 1 r)) ([.ref x, .ref a0, .ref a1, .int a2] : List Value).toArray s 0 0 (Al_ L)) D cy (Al_ L) s.heap L κ ln R I_10 J_11 62 [(0, .ref x), (1, .ref a0), (2, .ref a1), (3, .int v_15), (4, .int v_16), (5, .int v_17)] [] := by
        intro I_10 J_11 hU_12 hF_13 hG_14 v_15 rv_15 v_16 rv_16 nv_16_0 v_17 rv_17 hm_18
        refine g_iconst C (v := 0) dX7_readCond_62 (by decide) ?_
        refine g_istore C dX7_readCond_63 (by decide) (lo2 := [(4, .int 0), (0, .ref x), (1, .ref a0), (2, .ref a1), (3, .int v_15), (5, .int v_17)]) rfl ?_
        obtain ⟨x_19, hx_19, rx_19, tx_19⟩ := ex_add (y := 1) 1 20 rv_17 rc_1 (by decide) (by decide) (by decide) (by decide)
        refine g_iinc C dX7_readCond_65 (k := 5) (v := x_19) rfl hx_19 (by decide) (lo2 := [(5, .int x_19), (4, .int 0), (0, .ref x), (1, .ref a0), (2, .ref a1), (3, .int v_15)]) rfl ?_
        refine g_goto C (tgt := 12) dX7_readCond_68 (by decide) ?_
        refine g_lo (is := [2, 3, 4, 5, 1, 0]) (lo2 := [(0, .ref x), (1, .ref a0), (2, .ref a1), (3, .int v_15), (4, .int 0), (5, .int x_19)]) rfl ?_
        exact ih_12 I_10 J_11 hU_12 hF_13 hG_14 v_15 (rv_15) 0 (rg_w rc_0 (by decide) (by decide)) x_19 (rg_w rx_19 (by decide) (by decide)) (ms_1 hm_18 (ti_k tx_19 rc_1) (by decide))
      refine g_iload C 5 dX7_readCond_12 rfl ?_
      refine g_bipush C (v := 20) dX7_readCond_14 (by decide) ?_
      refine g_icmp_ge C (tgt := 71) dX7_readCond_16 (by decide) (fun h_20 => ?_) (fun h_20 => ?_)
      · skip
        have r_21 := le_r (h_20) rc_20 rv_8
        refine g_iload C 4 dX7_readCond_71 rfl ?_
        exact g_zret (ty := .boolean) (r := v_7) B K rfl (nar_z (rv_7)) ⟨hU_3, hF_4, hG_5, rv_7⟩ dX7_readCond_73
      · skip
        have r_22 := lt_l (hi := 19) (nle h_20) rv_8 rc_20 (by decide)
        refine g_iload C 4 dX7_readCond_19 rfl ?_
        refine g_if_eq C (tgt := 71) dX7_readCond_21 (by decide) (fun h_23 => ?_) (fun h_23 => ?_)
        · skip
          have r_24 := (⟨(rv_7).1, (eq_rg (h_23) rc_0).2⟩ : Rg 0 0 v_7)
          refine g_iload C 4 dX7_readCond_71 rfl ?_
          exact g_zret (ty := .boolean) (r := v_7) B K rfl (nar_z (rg_w r_24 (by decide) (by decide))) ⟨hU_3, hF_4, hG_5, rg_w r_24 (by decide) (by decide)⟩ dX7_readCond_73
        · skip
          have n_25 : ¬ v_7 = 0 := h_23
          have r_26 := ne_lo (lo := 1) n_25 rv_7 rc_0 rfl (by decide)
          refine g_aload_n C 1 dX7_readCond_24 rfl rfl ?_
          obtain ⟨x_27, hx_27, rx_27⟩ := ex_get (I := I_1) (a := a0) (j := 8) (lo := (-2147483648)) (hi := 2147483647) hU_3.1 hLa0 (ro_o hka0 (by decide)) rfl
          refine g_getI C K hLa0 hka0 f_7_57 (v := x_27) hx_27 dX7_readCond_25 ?_
          refine g_bipush C (v := 17) dX7_readCond_28 (by decide) ?_
          refine g_icmp_ne C (tgt := 71) dX7_readCond_30 (by decide) (fun h_28 => ?_) (fun h_28 => ?_)
          · skip
            have n_29 : ¬ x_27 = 17 := h_28
            refine g_iload C 4 dX7_readCond_71 rfl ?_
            exact g_zret (ty := .boolean) (r := v_7) B K rfl (nar_z (rg_w r_26 (by decide) (by decide))) ⟨hU_3, hF_4, hG_5, rg_w r_26 (by decide) (by decide)⟩ dX7_readCond_73
          · skip
            have r_30 := (⟨(eq_rg (h_28) rc_17).1, (eq_rg (h_28) rc_17).2⟩ : Rg 17 17 x_27)
            refine g_aload_n C 1 dX7_readCond_33 rfl rfl ?_
            refine g_callVV C K (c_X10_advance W9 hLa0 hka0   hU_3) hLa0 hka0 (by decide) rfl v_7_60 rfl ⟨rfl, rfl⟩ ⟨Nat.le_of_ble_eq_true rfl, Nat.le_of_ble_eq_true rfl⟩ (Nat.le_of_ble_eq_true rfl) ⟨Nat.le_of_ble_eq_true rfl, Nat.le_of_ble_eq_true rfl⟩ dX7_readCond_34 rfl (st := []) (fun I_32 J_33 h_34 => ?_)
            obtain ⟨hUI_32, hFI_32, hGJ_33, fx_31⟩ := h_34
            have hF_35 := fq_tr hF_4 hFI_32 (by decide)
            have hG_36 := fq_tr hG_5 hGJ_33 (by decide)
            refine g_aload_n C 0 dX7_readCond_37 rfl rfl ?_
            refine g_aload_n C 1 dX7_readCond_38 rfl rfl ?_
            refine g_aload_n C 2 dX7_readCond_39 rfl rfl ?_
            refine g_iload_n C 3 dX7_readCond_40 rfl rfl ?_
            refine g_callVI C K (c_X7_readAll_8 W9 hLx hkx hLa0 hka0 hLa1 hka1 v_6 (rv_6) hUI_32) hLx hkx (by decide) rfl v_7_54 rfl ⟨rfl, rfl⟩ ⟨Nat.le_of_ble_eq_true rfl, Nat.le_of_ble_eq_true rfl⟩ (Nat.le_of_ble_eq_true rfl) ⟨Nat.le_of_ble_eq_true rfl, Nat.le_of_ble_eq_true rfl⟩ dX7_readCond_41 rfl (st := []) (fun x_37 I_38 J_39 h_40 => ?_)
            obtain ⟨hUI_38, hFI_38, hGJ_39, rx_37⟩ := h_40
            have hF_41 := fq_tr hF_35 hFI_38 (by decide)
            have hG_42 := fq_tr hG_36 hGJ_39 (by decide)
            refine g_if_eq C (tgt := 62) dX7_readCond_44 (by decide) (fun h_43 => ?_) (fun h_43 => ?_)
            · skip
              have r_44 := (⟨(rx_37).1, (eq_rg (h_43) rc_0).2⟩ : Rg 0 0 x_37)
              refine g_lo (is := [0, 1, 2, 3, 4, 5]) (lo2 := [(0, .ref x), (1, .ref a0), (2, .ref a1), (3, .int v_6), (4, .int v_7), (5, .int v_8)]) rfl ?_
              exact j_62 I_38 J_39 hUI_38 hF_41 hG_42 v_6 (rv_6) v_7 (r_26) (n_25) v_8 (r_22) hm_9
            · skip
              have n_45 : ¬ x_37 = 0 := h_43
              have r_46 := ne_lo (lo := 1) n_45 rx_37 rc_0 rfl (by decide)
              refine g_aload_n C 0 dX7_readCond_47 rfl rfl ?_
              refine g_bipush C (v := 17) dX7_readCond_48 (by decide) ?_
              refine g_iconst C (v := 0) dX7_readCond_50 (by decide) ?_
              refine g_iconst C (v := 0) dX7_readCond_51 (by decide) ?_
              refine g_callVI C K (c_X7_addStep W9 hLx hkx 17 0 0 (rg_w rc_0 (by decide) (by decide)) hUI_38  (fun q => absurd q (by decide))) hLx hkx (by decide) rfl v_7_63 rfl ⟨rfl, rfl⟩ ⟨Nat.le_of_ble_eq_true rfl, Nat.le_of_ble_eq_true rfl⟩ (Nat.le_of_ble_eq_true rfl) ⟨Nat.le_of_ble_eq_true rfl, Nat.le_of_ble_eq_true rfl⟩ dX7_readCond_52 rfl (st := []) (fun x_47 I_48 J_49 h_50 => ?_)
              obtain ⟨hUI_48, hFI_48, hGJ_49, rx_47⟩ := h_50
              have hF_51 := fq_tr hF_41 hFI_48 (by decide)
              have hG_52 := fq_tr hG_42 hGJ_49 (by decide)
              refine g_if_eq C (tgt := 62) dX7_readCond_55 (by decide) (fun h_53 => ?_) (fun h_53 => ?_)
              · skip
                have r_54 := (⟨(rx_47).1, (eq_rg (h_53) rc_0).2⟩ : Rg 0 0 x_47)
                refine g_lo (is := [0, 1, 2, 3, 4, 5]) (lo2 := [(0, .ref x), (1, .ref a0), (2, .ref a1), (3, .int v_6), (4, .int v_7), (5, .int v_8)]) rfl ?_
                exact j_62 I_48 J_49 hUI_48 hF_51 hG_52 v_6 (rv_6) v_7 (r_26) (n_25) v_8 (r_22) hm_9
              · skip
                have n_55 : ¬ x_47 = 0 := h_53
                have r_56 := ne_lo (lo := 1) n_55 rx_47 rc_0 rfl (by decide)
                refine g_iconst C (v := 1) dX7_readCond_58 (by decide) ?_
                refine g_goto C (tgt := 63) dX7_readCond_59 (by decide) ?_
                refine g_istore C dX7_readCond_63 (by decide) (lo2 := [(4, .int 1), (0, .ref x), (1, .ref a0), (2, .ref a1), (3, .int v_6), (5, .int v_8)]) rfl ?_
                obtain ⟨x_57, hx_57, rx_57, tx_57⟩ := ex_add (y := 1) 1 20 r_22 rc_1 (by decide) (by decide) (by decide) (by decide)
                refine g_iinc C dX7_readCond_65 (k := 5) (v := x_57) rfl hx_57 (by decide) (lo2 := [(5, .int x_57), (4, .int 1), (0, .ref x), (1, .ref a0), (2, .ref a1), (3, .int v_6)]) rfl ?_
                refine g_goto C (tgt := 12) dX7_readCond_68 (by decide) ?_
                refine g_lo (is := [2, 3, 4, 5, 1, 0]) (lo2 := [(0, .ref x), (1, .ref a0), (2, .ref a1), (3, .int v_6), (4, .int 1), (5, .int x_57)]) rfl ?_
                exact ih_12 I_48 J_49 hUI_48 hF_51 hG_52 v_6 (rv_6) 1 (rg_w rc_1 (by decide) (by decide)) x_57 (rg_w rx_57 (by decide) (by decide)) (ms_1 hm_9 (ti_k tx_57 rc_1) (by decide))
  refine g_aload_n C 0 dX7_readCond_0 rfl rfl ?_
  refine g_aload_n C 1 dX7_readCond_1 rfl rfl ?_
  refine g_aload_n C 2 dX7_readCond_2 rfl rfl ?_
  refine g_iload_n C 3 dX7_readCond_3 rfl rfl ?_
  refine g_callVI C K (c_X7_readAll_8 W9 hLx hkx hLa0 hka0 hLa1 hka1 a2 (ra2) hU) hLx hkx (by decide) rfl v_7_54 rfl ⟨rfl, rfl⟩ ⟨Nat.le_of_ble_eq_true rfl, Nat.le_of_ble_eq_true rfl⟩ (Nat.le_of_ble_eq_true rfl) ⟨Nat.le_of_ble_eq_true rfl, Nat.le_of_ble_eq_true rfl⟩ dX7_readCond_4 rfl (st := []) (fun x_58 I_59 J_60 h_61 => ?_)
  obtain ⟨hUI_59, hFI_59, hGJ_60, rx_58⟩ := h_61
  have hF_62 := fq_tr hF hFI_59 (by decide)
  have hG_63 := fq_tr hG hGJ_60 (by decide)
  refine g_istore C dX7_readCond_7 (by decide) (lo2 := [(4, .int x_58), (0, .ref x), (1, .ref a0), (2, .ref a1), (3, .int a2)]) rfl ?_
  refine g_iconst C (v := 0) dX7_readCond_9 (by decide) ?_
  refine g_istore C dX7_readCond_10 (by decide) (lo2 := [(5, .int 0), (4, .int x_58), (0, .ref x), (1, .ref a0), (2, .ref a1), (3, .int a2)]) rfl ?_
  refine g_lo (is := [2, 3, 4, 5, 1, 0]) (lo2 := [(0, .ref x), (1, .ref a0), (2, .ref a1), (3, .int a2), (4, .int x_58), (5, .int 0)]) rfl ?_
  exact l_12 21 I_59 J_60 hUI_59 hF_62 hG_63 a2 (ra2) x_58 (rx_58) 0 (rg_w rc_0 (by decide) (by decide)) (ms_s (a := 0) (b := 20) (N := 21) (rg_w rc_0 (by decide) (by decide)) (by decide))
