theorem dX0_readFrom_0 : decode cX0_readFrom 0 = .ok (.aload_n 1, 1) := by decide +kernel
theorem dX0_readFrom_1 : decode cX0_readFrom 1 = .ok (.sipush 400, 3) := by decide +kernel
theorem dX0_readFrom_4 : decode cX0_readFrom 4 = .ok (.invokevirtual 44, 3) := by decide +kernel
theorem dX0_readFrom_7 : decode cX0_readFrom 7 = .ok (.aload_n 0, 1) := by decide +kernel
theorem dX0_readFrom_8 : decode cX0_readFrom 8 = .ok (.iconst 0, 1) := by decide +kernel
theorem dX0_readFrom_9 : decode cX0_readFrom 9 = .ok (.putfield 24, 3) := by decide +kernel
theorem dX0_readFrom_12 : decode cX0_readFrom 12 = .ok (.aload_n 0, 1) := by decide +kernel
theorem dX0_readFrom_13 : decode cX0_readFrom 13 = .ok (.getfield 24, 3) := by decide +kernel
theorem dX0_readFrom_16 : decode cX0_readFrom 16 = .ok (.bipush 40, 2) := by decide +kernel
theorem dX0_readFrom_18 : decode cX0_readFrom 18 = .ok (.if_icmp .gt 34, 3) := by decide +kernel
theorem dX0_readFrom_21 : decode cX0_readFrom 21 = .ok (.aload_n 1, 1) := by decide +kernel
theorem dX0_readFrom_22 : decode cX0_readFrom 22 = .ok (.getfield 50, 3) := by decide +kernel
theorem dX0_readFrom_25 : decode cX0_readFrom 25 = .ok (.bipush 102, 2) := by decide +kernel
theorem dX0_readFrom_27 : decode cX0_readFrom 27 = .ok (.if_icmp .eq 25, 3) := by decide +kernel
theorem dX0_readFrom_30 : decode cX0_readFrom 30 = .ok (.aload_n 0, 1) := by decide +kernel
theorem dX0_readFrom_31 : decode cX0_readFrom 31 = .ok (.aload_n 1, 1) := by decide +kernel
theorem dX0_readFrom_32 : decode cX0_readFrom 32 = .ok (.aload_n 2, 1) := by decide +kernel
theorem dX0_readFrom_33 : decode cX0_readFrom 33 = .ok (.invokevirtual 53, 3) := by decide +kernel
theorem dX0_readFrom_36 : decode cX0_readFrom 36 = .ok (.ifCond .eq 16, 3) := by decide +kernel
theorem dX0_readFrom_39 : decode cX0_readFrom 39 = .ok (.aload_n 0, 1) := by decide +kernel
theorem dX0_readFrom_40 : decode cX0_readFrom 40 = .ok (.dup, 1) := by decide +kernel
theorem dX0_readFrom_41 : decode cX0_readFrom 41 = .ok (.getfield 24, 3) := by decide +kernel
theorem dX0_readFrom_44 : decode cX0_readFrom 44 = .ok (.iconst 1, 1) := by decide +kernel
theorem dX0_readFrom_45 : decode cX0_readFrom 45 = .ok (.iadd, 1) := by decide +kernel
theorem dX0_readFrom_46 : decode cX0_readFrom 46 = .ok (.putfield 24, 3) := by decide +kernel
theorem dX0_readFrom_49 : decode cX0_readFrom 49 = .ok (.goto (-37), 3) := by decide +kernel
theorem dX0_readFrom_52 : decode cX0_readFrom 52 = .ok (.return_, 1) := by decide +kernel
theorem dX0_readLine_0 : decode cX0_readLine 0 = .ok (.aload_n 1, 1) := by decide +kernel
theorem dX0_readLine_1 : decode cX0_readLine 1 = .ok (.getfield 50, 3) := by decide +kernel
theorem dX0_readLine_4 : decode cX0_readLine 4 = .ok (.bipush 100, 2) := by decide +kernel
theorem dX0_readLine_6 : decode cX0_readLine 6 = .ok (.if_icmp .ne 7, 3) := by decide +kernel
theorem dX0_readLine_9 : decode cX0_readLine 9 = .ok (.iconst 1, 1) := by decide +kernel
theorem dX0_readLine_10 : decode cX0_readLine 10 = .ok (.goto 4, 3) := by decide +kernel
theorem dX0_readLine_13 : decode cX0_readLine 13 = .ok (.iconst 0, 1) := by decide +kernel
theorem dX0_readLine_14 : decode cX0_readLine 14 = .ok (.istore_n 3, 1) := by decide +kernel
theorem dX0_readLine_15 : decode cX0_readLine 15 = .ok (.iload_n 3, 1) := by decide +kernel
theorem dX0_readLine_16 : decode cX0_readLine 16 = .ok (.ifCond .ne 18, 3) := by decide +kernel
theorem dX0_readLine_19 : decode cX0_readLine 19 = .ok (.aload_n 1, 1) := by decide +kernel
theorem dX0_readLine_20 : decode cX0_readLine 20 = .ok (.getfield 50, 3) := by decide +kernel
theorem dX0_readLine_23 : decode cX0_readLine 23 = .ok (.bipush 16, 2) := by decide +kernel
theorem dX0_readLine_25 : decode cX0_readLine 25 = .ok (.if_icmp .eq 9, 3) := by decide +kernel
theorem dX0_readLine_28 : decode cX0_readLine 28 = .ok (.aload_n 1, 1) := by decide +kernel
theorem dX0_readLine_29 : decode cX0_readLine 29 = .ok (.iconst 1, 1) := by decide +kernel
theorem dX0_readLine_30 : decode cX0_readLine 30 = .ok (.invokevirtual 57, 3) := by decide +kernel
theorem dX0_readLine_33 : decode cX0_readLine 33 = .ok (.ireturn, 1) := by decide +kernel
theorem dX0_readLine_34 : decode cX0_readLine 34 = .ok (.iload_n 3, 1) := by decide +kernel
theorem dX0_readLine_35 : decode cX0_readLine 35 = .ok (.ifCond .eq 14, 3) := by decide +kernel
theorem dX0_readLine_38 : decode cX0_readLine 38 = .ok (.aload_n 2, 1) := by decide +kernel
theorem dX0_readLine_39 : decode cX0_readLine 39 = .ok (.aload_n 1, 1) := by decide +kernel
theorem dX0_readLine_40 : decode cX0_readLine 40 = .ok (.getfield 61, 3) := by decide +kernel
theorem dX0_readLine_43 : decode cX0_readLine 43 = .ok (.invokevirtual 65, 3) := by decide +kernel
theorem dX0_readLine_46 : decode cX0_readLine 46 = .ok (.goto 4, 3) := by decide +kernel
theorem dX0_readLine_49 : decode cX0_readLine 49 = .ok (.iconst (-1), 1) := by decide +kernel
theorem dX0_readLine_50 : decode cX0_readLine 50 = .ok (.istore 4, 2) := by decide +kernel
theorem dX0_readLine_52 : decode cX0_readLine 52 = .ok (.iload_n 3, 1) := by decide +kernel
theorem dX0_readLine_53 : decode cX0_readLine 53 = .ok (.ifCond .eq 15, 3) := by decide +kernel
theorem dX0_readLine_56 : decode cX0_readLine 56 = .ok (.iload 4, 2) := by decide +kernel
theorem dX0_readLine_58 : decode cX0_readLine 58 = .ok (.iconst (-1), 1) := by decide +kernel
theorem dX0_readLine_59 : decode cX0_readLine 59 = .ok (.if_icmp .ne 9, 3) := by decide +kernel
theorem dX0_readLine_62 : decode cX0_readLine 62 = .ok (.aload_n 1, 1) := by decide +kernel
theorem dX0_readLine_63 : decode cX0_readLine 63 = .ok (.iconst 3, 1) := by decide +kernel
theorem dX0_readLine_64 : decode cX0_readLine 64 = .ok (.invokevirtual 57, 3) := by decide +kernel
theorem dX0_readLine_67 : decode cX0_readLine 67 = .ok (.ireturn, 1) := by decide +kernel
theorem dX0_readLine_68 : decode cX0_readLine 68 = .ok (.aload_n 0, 1) := by decide +kernel
theorem dX0_readLine_69 : decode cX0_readLine 69 = .ok (.getfield 24, 3) := by decide +kernel
theorem dX0_readLine_72 : decode cX0_readLine 72 = .ok (.bipush 40, 2) := by decide +kernel
theorem dX0_readLine_74 : decode cX0_readLine 74 = .ok (.if_icmp .lt 9, 3) := by decide +kernel
theorem dX0_readLine_77 : decode cX0_readLine 77 = .ok (.aload_n 1, 1) := by decide +kernel
theorem dX0_readLine_78 : decode cX0_readLine 78 = .ok (.iconst 4, 1) := by decide +kernel
theorem dX0_readLine_79 : decode cX0_readLine 79 = .ok (.invokevirtual 57, 3) := by decide +kernel
theorem dX0_readLine_82 : decode cX0_readLine 82 = .ok (.ireturn, 1) := by decide +kernel
theorem dX0_readLine_83 : decode cX0_readLine 83 = .ok (.aload_n 0, 1) := by decide +kernel
theorem dX0_readLine_84 : decode cX0_readLine 84 = .ok (.getfield 15, 3) := by decide +kernel
theorem dX0_readLine_87 : decode cX0_readLine 87 = .ok (.aload_n 0, 1) := by decide +kernel
theorem dX0_readLine_88 : decode cX0_readLine 88 = .ok (.getfield 24, 3) := by decide +kernel
theorem dX0_readLine_91 : decode cX0_readLine 91 = .ok (.iload 4, 2) := by decide +kernel
theorem dX0_readLine_93 : decode cX0_readLine 93 = .ok (.iastore, 1) := by decide +kernel
theorem dX0_readLine_94 : decode cX0_readLine 94 = .ok (.iload_n 3, 1) := by decide +kernel
theorem dX0_readLine_95 : decode cX0_readLine 95 = .ok (.ifCond .eq 7, 3) := by decide +kernel
theorem dX0_readLine_98 : decode cX0_readLine 98 = .ok (.aload_n 1, 1) := by decide +kernel
theorem dX0_readLine_99 : decode cX0_readLine 99 = .ok (.invokevirtual 71, 3) := by decide +kernel
theorem dX0_readLine_102 : decode cX0_readLine 102 = .ok (.aload_n 0, 1) := by decide +kernel
theorem dX0_readLine_103 : decode cX0_readLine 103 = .ok (.aload_n 1, 1) := by decide +kernel
theorem dX0_readLine_104 : decode cX0_readLine 104 = .ok (.aload_n 2, 1) := by decide +kernel
theorem dX0_readLine_105 : decode cX0_readLine 105 = .ok (.invokevirtual 74, 3) := by decide +kernel
theorem dX0_readLine_108 : decode cX0_readLine 108 = .ok (.ifCond .eq 16, 3) := by decide +kernel
theorem dX0_readLine_111 : decode cX0_readLine 111 = .ok (.aload_n 1, 1) := by decide +kernel
theorem dX0_readLine_112 : decode cX0_readLine 112 = .ok (.bipush 59, 2) := by decide +kernel
theorem dX0_readLine_114 : decode cX0_readLine 114 = .ok (.invokevirtual 77, 3) := by decide +kernel
theorem dX0_readLine_117 : decode cX0_readLine 117 = .ok (.ifCond .eq 7, 3) := by decide +kernel
theorem dX0_readLine_120 : decode cX0_readLine 120 = .ok (.iconst 1, 1) := by decide +kernel
theorem dX0_readLine_121 : decode cX0_readLine 121 = .ok (.goto 4, 3) := by decide +kernel
theorem dX0_readLine_124 : decode cX0_readLine 124 = .ok (.iconst 0, 1) := by decide +kernel
theorem dX0_readLine_125 : decode cX0_readLine 125 = .ok (.ireturn, 1) := by decide +kernel
theorem dX11_book_0 : decode cX11_book 0 = .ok (.iload_n 1, 1) := by decide +kernel
theorem dX11_book_1 : decode cX11_book 1 = .ok (.ifCond .eq 12, 3) := by decide +kernel
theorem dX11_book_4 : decode cX11_book 4 = .ok (.iload_n 1, 1) := by decide +kernel
theorem dX11_book_5 : decode cX11_book 5 = .ok (.iconst 1, 1) := by decide +kernel
theorem dX11_book_6 : decode cX11_book 6 = .ok (.if_icmp .eq 7, 3) := by decide +kernel
theorem dX11_book_9 : decode cX11_book 9 = .ok (.sipush (-1000), 3) := by decide +kernel
theorem dX11_book_12 : decode cX11_book 12 = .ok (.ireturn, 1) := by decide +kernel
theorem dX11_book_13 : decode cX11_book 13 = .ok (.aload_n 0, 1) := by decide +kernel
theorem dX11_book_14 : decode cX11_book 14 = .ok (.getfield 52, 3) := by decide +kernel
theorem dX11_book_17 : decode cX11_book 17 = .ok (.aload_n 0, 1) := by decide +kernel
theorem dX11_book_18 : decode cX11_book 18 = .ok (.getfield 10, 3) := by decide +kernel
theorem dX11_book_21 : decode cX11_book 21 = .ok (.aload_n 0, 1) := by decide +kernel
theorem dX11_book_22 : decode cX11_book 22 = .ok (.getfield 19, 3) := by decide +kernel
theorem dX11_book_25 : decode cX11_book 25 = .ok (.invokevirtual 340, 3) := by decide +kernel
theorem dX11_book_28 : decode cX11_book 28 = .ok (.aload_n 0, 1) := by decide +kernel
theorem dX11_book_29 : decode cX11_book 29 = .ok (.getfield 10, 3) := by decide +kernel
theorem dX11_book_32 : decode cX11_book 32 = .ok (.iconst 0, 1) := by decide +kernel
theorem dX11_book_33 : decode cX11_book 33 = .ok (.putfield 102, 3) := by decide +kernel
theorem dX11_book_36 : decode cX11_book 36 = .ok (.aload_n 0, 1) := by decide +kernel
theorem dX11_book_37 : decode cX11_book 37 = .ok (.getfield 10, 3) := by decide +kernel
theorem dX11_book_40 : decode cX11_book 40 = .ok (.getfield 113, 3) := by decide +kernel
theorem dX11_book_43 : decode cX11_book 43 = .ok (.ifCond .eq 14, 3) := by decide +kernel
theorem dX11_book_46 : decode cX11_book 46 = .ok (.bipush (-2), 2) := by decide +kernel
theorem dX11_book_48 : decode cX11_book 48 = .ok (.aload_n 0, 1) := by decide +kernel
theorem dX11_book_49 : decode cX11_book 49 = .ok (.getfield 10, 3) := by decide +kernel
theorem dX11_book_52 : decode cX11_book 52 = .ok (.getfield 116, 3) := by decide +kernel
theorem dX11_book_55 : decode cX11_book 55 = .ok (.isub, 1) := by decide +kernel
theorem dX11_book_56 : decode cX11_book 56 = .ok (.ireturn, 1) := by decide +kernel
theorem dX11_book_57 : decode cX11_book 57 = .ok (.aload_n 0, 1) := by decide +kernel
theorem dX11_book_58 : decode cX11_book 58 = .ok (.getfield 32, 3) := by decide +kernel
theorem dX11_book_61 : decode cX11_book 61 = .ok (.aload_n 0, 1) := by decide +kernel
theorem dX11_book_62 : decode cX11_book 62 = .ok (.getfield 28, 3) := by decide +kernel
theorem dX11_book_65 : decode cX11_book 65 = .ok (.invokevirtual 126, 3) := by decide +kernel
theorem dX11_book_68 : decode cX11_book 68 = .ok (.aload_n 0, 1) := by decide +kernel
theorem dX11_book_69 : decode cX11_book 69 = .ok (.getfield 52, 3) := by decide +kernel
theorem dX11_book_72 : decode cX11_book 72 = .ok (.aload_n 0, 1) := by decide +kernel
theorem dX11_book_73 : decode cX11_book 73 = .ok (.getfield 32, 3) := by decide +kernel
theorem dX11_book_76 : decode cX11_book 76 = .ok (.invokevirtual 343, 3) := by decide +kernel
theorem dX11_book_79 : decode cX11_book 79 = .ok (.iload_n 1, 1) := by decide +kernel
theorem dX11_book_80 : decode cX11_book 80 = .ok (.iconst 1, 1) := by decide +kernel
theorem dX11_book_81 : decode cX11_book 81 = .ok (.if_icmp .ne 32, 3) := by decide +kernel
theorem dX11_book_84 : decode cX11_book 84 = .ok (.aload_n 0, 1) := by decide +kernel
theorem dX11_book_85 : decode cX11_book 85 = .ok (.getfield 38, 3) := by decide +kernel
theorem dX11_book_88 : decode cX11_book 88 = .ok (.aload_n 0, 1) := by decide +kernel
theorem dX11_book_89 : decode cX11_book 89 = .ok (.getfield 28, 3) := by decide +kernel
theorem dX11_book_92 : decode cX11_book 92 = .ok (.invokevirtual 225, 3) := by decide +kernel
theorem dX11_book_95 : decode cX11_book 95 = .ok (.aload_n 0, 1) := by decide +kernel
theorem dX11_book_96 : decode cX11_book 96 = .ok (.getfield 38, 3) := by decide +kernel
theorem dX11_book_99 : decode cX11_book 99 = .ok (.invokevirtual 260, 3) := by decide +kernel
theorem dX11_book_102 : decode cX11_book 102 = .ok (.aload_n 0, 1) := by decide +kernel
theorem dX11_book_103 : decode cX11_book 103 = .ok (.getfield 28, 3) := by decide +kernel
theorem dX11_book_106 : decode cX11_book 106 = .ok (.aload_n 0, 1) := by decide +kernel
theorem dX11_book_107 : decode cX11_book 107 = .ok (.getfield 32, 3) := by decide +kernel
theorem dX11_book_110 : decode cX11_book 110 = .ok (.invokevirtual 126, 3) := by decide +kernel
theorem dX11_book_113 : decode cX11_book 113 = .ok (.aload_n 0, 1) := by decide +kernel
theorem dX11_book_114 : decode cX11_book 114 = .ok (.getfield 52, 3) := by decide +kernel
theorem dX11_book_117 : decode cX11_book 117 = .ok (.getfield 346, 3) := by decide +kernel
theorem dX11_book_120 : decode cX11_book 120 = .ok (.ifCond .ne 7, 3) := by decide +kernel
theorem dX11_book_123 : decode cX11_book 123 = .ok (.iconst (-1), 1) := by decide +kernel
theorem dX11_book_124 : decode cX11_book 124 = .ok (.goto 10, 3) := by decide +kernel
theorem dX11_book_127 : decode cX11_book 127 = .ok (.aload_n 0, 1) := by decide +kernel
theorem dX11_book_128 : decode cX11_book 128 = .ok (.getfield 52, 3) := by decide +kernel
theorem dX11_book_131 : decode cX11_book 131 = .ok (.getfield 349, 3) := by decide +kernel
theorem dX11_book_134 : decode cX11_book 134 = .ok (.ireturn, 1) := by decide +kernel
theorem dX11_told_0 : decode cX11_told 0 = .ok (.aload_n 0, 1) := by decide +kernel
theorem dX11_told_1 : decode cX11_told 1 = .ok (.getfield 52, 3) := by decide +kernel
theorem dX11_told_4 : decode cX11_told 4 = .ok (.getfield 352, 3) := by decide +kernel
theorem dX11_told_7 : decode cX11_told 7 = .ok (.ifCond .ne 5, 3) := by decide +kernel
theorem dX11_told_10 : decode cX11_told 10 = .ok (.iconst (-1), 1) := by decide +kernel
theorem dX11_told_11 : decode cX11_told 11 = .ok (.ireturn, 1) := by decide +kernel
theorem dX11_told_12 : decode cX11_told 12 = .ok (.iload_n 1, 1) := by decide +kernel
theorem dX11_told_13 : decode cX11_told 13 = .ok (.tableswitch 63 0 3 #[31, 39, 47, 55], 31) := by decide +kernel
theorem dX11_told_44 : decode cX11_told 44 = .ok (.aload_n 0, 1) := by decide +kernel
theorem dX11_told_45 : decode cX11_told 45 = .ok (.getfield 52, 3) := by decide +kernel
theorem dX11_told_48 : decode cX11_told 48 = .ok (.getfield 346, 3) := by decide +kernel
theorem dX11_told_51 : decode cX11_told 51 = .ok (.ireturn, 1) := by decide +kernel
theorem dX11_told_52 : decode cX11_told 52 = .ok (.aload_n 0, 1) := by decide +kernel
theorem dX11_told_53 : decode cX11_told 53 = .ok (.getfield 52, 3) := by decide +kernel
theorem dX11_told_56 : decode cX11_told 56 = .ok (.getfield 349, 3) := by decide +kernel
theorem dX11_told_59 : decode cX11_told 59 = .ok (.ireturn, 1) := by decide +kernel
theorem dX11_told_60 : decode cX11_told 60 = .ok (.aload_n 0, 1) := by decide +kernel
theorem dX11_told_61 : decode cX11_told 61 = .ok (.getfield 52, 3) := by decide +kernel
theorem dX11_told_64 : decode cX11_told 64 = .ok (.getfield 356, 3) := by decide +kernel
theorem dX11_told_67 : decode cX11_told 67 = .ok (.ireturn, 1) := by decide +kernel
theorem dX11_told_68 : decode cX11_told 68 = .ok (.aload_n 0, 1) := by decide +kernel
theorem dX11_told_69 : decode cX11_told 69 = .ok (.getfield 52, 3) := by decide +kernel
theorem dX11_told_72 : decode cX11_told 72 = .ok (.getfield 359, 3) := by decide +kernel
theorem dX11_told_75 : decode cX11_told 75 = .ok (.ireturn, 1) := by decide +kernel
theorem dX11_told_76 : decode cX11_told 76 = .ok (.iconst (-1), 1) := by decide +kernel
theorem dX11_told_77 : decode cX11_told 77 = .ok (.ireturn, 1) := by decide +kernel
theorem dX7_addStep_0 : decode cX7_addStep 0 = .ok (.aload_n 0, 1) := by decide +kernel
theorem dX7_addStep_1 : decode cX7_addStep 1 = .ok (.getfield 24, 3) := by decide +kernel
theorem dX7_addStep_4 : decode cX7_addStep 4 = .ok (.bipush 40, 2) := by decide +kernel
theorem dX7_addStep_6 : decode cX7_addStep 6 = .ok (.if_icmp .lt 5, 3) := by decide +kernel
theorem dX7_addStep_9 : decode cX7_addStep 9 = .ok (.iconst 0, 1) := by decide +kernel
theorem dX7_addStep_10 : decode cX7_addStep 10 = .ok (.ireturn, 1) := by decide +kernel
theorem dX7_addStep_11 : decode cX7_addStep 11 = .ok (.aload_n 0, 1) := by decide +kernel
theorem dX7_addStep_12 : decode cX7_addStep 12 = .ok (.getfield 11, 3) := by decide +kernel
theorem dX7_addStep_15 : decode cX7_addStep 15 = .ok (.aload_n 0, 1) := by decide +kernel
theorem dX7_addStep_16 : decode cX7_addStep 16 = .ok (.getfield 24, 3) := by decide +kernel
theorem dX7_addStep_19 : decode cX7_addStep 19 = .ok (.iload_n 1, 1) := by decide +kernel
theorem dX7_addStep_20 : decode cX7_addStep 20 = .ok (.iastore, 1) := by decide +kernel
theorem dX7_addStep_21 : decode cX7_addStep 21 = .ok (.aload_n 0, 1) := by decide +kernel
theorem dX7_addStep_22 : decode cX7_addStep 22 = .ok (.getfield 15, 3) := by decide +kernel
theorem dX7_addStep_25 : decode cX7_addStep 25 = .ok (.aload_n 0, 1) := by decide +kernel
theorem dX7_addStep_26 : decode cX7_addStep 26 = .ok (.getfield 24, 3) := by decide +kernel
theorem dX7_addStep_29 : decode cX7_addStep 29 = .ok (.iload_n 2, 1) := by decide +kernel
theorem dX7_addStep_30 : decode cX7_addStep 30 = .ok (.iastore, 1) := by decide +kernel
theorem dX7_addStep_31 : decode cX7_addStep 31 = .ok (.aload_n 0, 1) := by decide +kernel
theorem dX7_addStep_32 : decode cX7_addStep 32 = .ok (.getfield 18, 3) := by decide +kernel
theorem dX7_addStep_35 : decode cX7_addStep 35 = .ok (.aload_n 0, 1) := by decide +kernel
theorem dX7_addStep_36 : decode cX7_addStep 36 = .ok (.getfield 24, 3) := by decide +kernel
theorem dX7_addStep_39 : decode cX7_addStep 39 = .ok (.iload_n 3, 1) := by decide +kernel
theorem dX7_addStep_40 : decode cX7_addStep 40 = .ok (.iastore, 1) := by decide +kernel
theorem dX7_addStep_41 : decode cX7_addStep 41 = .ok (.aload_n 0, 1) := by decide +kernel
theorem dX7_addStep_42 : decode cX7_addStep 42 = .ok (.dup, 1) := by decide +kernel
theorem dX7_addStep_43 : decode cX7_addStep 43 = .ok (.getfield 24, 3) := by decide +kernel
theorem dX7_addStep_46 : decode cX7_addStep 46 = .ok (.iconst 1, 1) := by decide +kernel
theorem dX7_addStep_47 : decode cX7_addStep 47 = .ok (.iadd, 1) := by decide +kernel
theorem dX7_addStep_48 : decode cX7_addStep 48 = .ok (.putfield 24, 3) := by decide +kernel
theorem dX7_addStep_51 : decode cX7_addStep 51 = .ok (.iconst 1, 1) := by decide +kernel
theorem dX7_addStep_52 : decode cX7_addStep 52 = .ok (.ireturn, 1) := by decide +kernel
theorem dX7_become_0 : decode cX7_become 0 = .ok (.aload_n 1, 1) := by decide +kernel
theorem dX7_become_1 : decode cX7_become 1 = .ok (.getfield 11, 3) := by decide +kernel
theorem dX7_become_4 : decode cX7_become 4 = .ok (.iconst 0, 1) := by decide +kernel
theorem dX7_become_5 : decode cX7_become 5 = .ok (.aload_n 0, 1) := by decide +kernel
theorem dX7_become_6 : decode cX7_become 6 = .ok (.getfield 11, 3) := by decide +kernel
theorem dX7_become_9 : decode cX7_become 9 = .ok (.iconst 0, 1) := by decide +kernel
theorem dX7_become_10 : decode cX7_become 10 = .ok (.bipush 40, 2) := by decide +kernel
theorem dX7_become_12 : decode cX7_become 12 = .ok (.invokestatic 31, 3) := by decide +kernel
theorem dX7_become_15 : decode cX7_become 15 = .ok (.aload_n 1, 1) := by decide +kernel
theorem dX7_become_16 : decode cX7_become 16 = .ok (.getfield 15, 3) := by decide +kernel
theorem dX7_become_19 : decode cX7_become 19 = .ok (.iconst 0, 1) := by decide +kernel
theorem dX7_become_20 : decode cX7_become 20 = .ok (.aload_n 0, 1) := by decide +kernel
theorem dX7_become_21 : decode cX7_become 21 = .ok (.getfield 15, 3) := by decide +kernel
theorem dX7_become_24 : decode cX7_become 24 = .ok (.iconst 0, 1) := by decide +kernel
theorem dX7_become_25 : decode cX7_become 25 = .ok (.bipush 40, 2) := by decide +kernel
theorem dX7_become_27 : decode cX7_become 27 = .ok (.invokestatic 31, 3) := by decide +kernel
theorem dX7_become_30 : decode cX7_become 30 = .ok (.aload_n 1, 1) := by decide +kernel
theorem dX7_become_31 : decode cX7_become 31 = .ok (.getfield 18, 3) := by decide +kernel
theorem dX7_become_34 : decode cX7_become 34 = .ok (.iconst 0, 1) := by decide +kernel
theorem dX7_become_35 : decode cX7_become 35 = .ok (.aload_n 0, 1) := by decide +kernel
theorem dX7_become_36 : decode cX7_become 36 = .ok (.getfield 18, 3) := by decide +kernel
theorem dX7_become_39 : decode cX7_become 39 = .ok (.iconst 0, 1) := by decide +kernel
theorem dX7_become_40 : decode cX7_become 40 = .ok (.bipush 40, 2) := by decide +kernel
theorem dX7_become_42 : decode cX7_become 42 = .ok (.invokestatic 31, 3) := by decide +kernel
theorem dX7_become_45 : decode cX7_become 45 = .ok (.aload_n 0, 1) := by decide +kernel
theorem dX7_become_46 : decode cX7_become 46 = .ok (.aload_n 1, 1) := by decide +kernel
theorem dX7_become_47 : decode cX7_become 47 = .ok (.getfield 24, 3) := by decide +kernel
theorem dX7_become_50 : decode cX7_become 50 = .ok (.putfield 24, 3) := by decide +kernel
theorem dX7_become_53 : decode cX7_become 53 = .ok (.aload_n 0, 1) := by decide +kernel
theorem dX7_become_54 : decode cX7_become 54 = .ok (.aload_n 1, 1) := by decide +kernel
theorem dX7_become_55 : decode cX7_become 55 = .ok (.getfield 28, 3) := by decide +kernel
theorem dX7_become_58 : decode cX7_become 58 = .ok (.putfield 28, 3) := by decide +kernel
theorem dX7_become_61 : decode cX7_become 61 = .ok (.return_, 1) := by decide +kernel
theorem dX7_beginsOne_0 : decode cX7_beginsOne 0 = .ok (.iload_n 0, 1) := by decide +kernel
theorem dX7_beginsOne_1 : decode cX7_beginsOne 1 = .ok (.bipush 40, 2) := by decide +kernel
theorem dX7_beginsOne_3 : decode cX7_beginsOne 3 = .ok (.if_icmp .eq 20, 3) := by decide +kernel
theorem dX7_beginsOne_6 : decode cX7_beginsOne 6 = .ok (.iload_n 0, 1) := by decide +kernel
theorem dX7_beginsOne_7 : decode cX7_beginsOne 7 = .ok (.iconst 5, 1) := by decide +kernel
theorem dX7_beginsOne_8 : decode cX7_beginsOne 8 = .ok (.if_icmp .eq 15, 3) := by decide +kernel
theorem dX7_beginsOne_11 : decode cX7_beginsOne 11 = .ok (.iload_n 0, 1) := by decide +kernel
theorem dX7_beginsOne_12 : decode cX7_beginsOne 12 = .ok (.bipush 19, 2) := by decide +kernel
theorem dX7_beginsOne_14 : decode cX7_beginsOne 14 = .ok (.if_icmp .lt 13, 3) := by decide +kernel
theorem dX7_beginsOne_17 : decode cX7_beginsOne 17 = .ok (.iload_n 0, 1) := by decide +kernel
theorem dX7_beginsOne_18 : decode cX7_beginsOne 18 = .ok (.bipush 27, 2) := by decide +kernel
theorem dX7_beginsOne_20 : decode cX7_beginsOne 20 = .ok (.if_icmp .gt 7, 3) := by decide +kernel
theorem dX7_beginsOne_23 : decode cX7_beginsOne 23 = .ok (.iconst 1, 1) := by decide +kernel
theorem dX7_beginsOne_24 : decode cX7_beginsOne 24 = .ok (.goto 4, 3) := by decide +kernel
theorem dX7_beginsOne_27 : decode cX7_beginsOne 27 = .ok (.iconst 0, 1) := by decide +kernel
theorem dX7_beginsOne_28 : decode cX7_beginsOne 28 = .ok (.ireturn, 1) := by decide +kernel
theorem dX7_readAll_0 : decode cX7_readAll 0 = .ok (.aload_n 0, 1) := by decide +kernel
theorem dX7_readAll_1 : decode cX7_readAll 1 = .ok (.aload_n 1, 1) := by decide +kernel
theorem dX7_readAll_2 : decode cX7_readAll 2 = .ok (.aload_n 2, 1) := by decide +kernel
theorem dX7_readAll_3 : decode cX7_readAll 3 = .ok (.iload_n 3, 1) := by decide +kernel
theorem dX7_readAll_4 : decode cX7_readAll 4 = .ok (.invokevirtual 67, 3) := by decide +kernel
theorem dX7_readAll_7 : decode cX7_readAll 7 = .ok (.istore 4, 2) := by decide +kernel
theorem dX7_readAll_9 : decode cX7_readAll 9 = .ok (.iconst 0, 1) := by decide +kernel
theorem dX7_readAll_10 : decode cX7_readAll 10 = .ok (.istore 5, 2) := by decide +kernel
theorem dX7_readAll_12 : decode cX7_readAll 12 = .ok (.iload 5, 2) := by decide +kernel
theorem dX7_readAll_14 : decode cX7_readAll 14 = .ok (.bipush 20, 2) := by decide +kernel
theorem dX7_readAll_16 : decode cX7_readAll 16 = .ok (.if_icmp .ge 55, 3) := by decide +kernel
theorem dX7_readAll_19 : decode cX7_readAll 19 = .ok (.iload 4, 2) := by decide +kernel
theorem dX7_readAll_21 : decode cX7_readAll 21 = .ok (.ifCond .eq 50, 3) := by decide +kernel
theorem dX7_readAll_24 : decode cX7_readAll 24 = .ok (.aload_n 1, 1) := by decide +kernel
theorem dX7_readAll_25 : decode cX7_readAll 25 = .ok (.getfield 57, 3) := by decide +kernel
theorem dX7_readAll_28 : decode cX7_readAll 28 = .ok (.bipush 18, 2) := by decide +kernel
theorem dX7_readAll_30 : decode cX7_readAll 30 = .ok (.if_icmp .ne 41, 3) := by decide +kernel
theorem dX7_readAll_33 : decode cX7_readAll 33 = .ok (.aload_n 1, 1) := by decide +kernel
theorem dX7_readAll_34 : decode cX7_readAll 34 = .ok (.invokevirtual 60, 3) := by decide +kernel
theorem dX7_readAll_37 : decode cX7_readAll 37 = .ok (.aload_n 0, 1) := by decide +kernel
theorem dX7_readAll_38 : decode cX7_readAll 38 = .ok (.aload_n 1, 1) := by decide +kernel
theorem dX7_readAll_39 : decode cX7_readAll 39 = .ok (.aload_n 2, 1) := by decide +kernel
theorem dX7_readAll_40 : decode cX7_readAll 40 = .ok (.iload_n 3, 1) := by decide +kernel
theorem dX7_readAll_41 : decode cX7_readAll 41 = .ok (.invokevirtual 67, 3) := by decide +kernel
theorem dX7_readAll_44 : decode cX7_readAll 44 = .ok (.ifCond .eq 18, 3) := by decide +kernel
theorem dX7_readAll_47 : decode cX7_readAll 47 = .ok (.aload_n 0, 1) := by decide +kernel
theorem dX7_readAll_48 : decode cX7_readAll 48 = .ok (.bipush 18, 2) := by decide +kernel
theorem dX7_readAll_50 : decode cX7_readAll 50 = .ok (.iconst 0, 1) := by decide +kernel
theorem dX7_readAll_51 : decode cX7_readAll 51 = .ok (.iconst 0, 1) := by decide +kernel
theorem dX7_readAll_52 : decode cX7_readAll 52 = .ok (.invokevirtual 63, 3) := by decide +kernel
theorem dX7_readAll_55 : decode cX7_readAll 55 = .ok (.ifCond .eq 7, 3) := by decide +kernel
theorem dX7_readAll_58 : decode cX7_readAll 58 = .ok (.iconst 1, 1) := by decide +kernel
theorem dX7_readAll_59 : decode cX7_readAll 59 = .ok (.goto 4, 3) := by decide +kernel
theorem dX7_readAll_62 : decode cX7_readAll 62 = .ok (.iconst 0, 1) := by decide +kernel
theorem dX7_readAll_63 : decode cX7_readAll 63 = .ok (.istore 4, 2) := by decide +kernel
theorem dX7_readAll_65 : decode cX7_readAll 65 = .ok (.iinc 5 1, 3) := by decide +kernel
theorem dX7_readAll_68 : decode cX7_readAll 68 = .ok (.goto (-56), 3) := by decide +kernel
theorem dX7_readAll_71 : decode cX7_readAll 71 = .ok (.iload 4, 2) := by decide +kernel
theorem dX7_readAll_73 : decode cX7_readAll 73 = .ok (.ireturn, 1) := by decide +kernel
theorem dX7_readCond_0 : decode cX7_readCond 0 = .ok (.aload_n 0, 1) := by decide +kernel
theorem dX7_readCond_1 : decode cX7_readCond 1 = .ok (.aload_n 1, 1) := by decide +kernel
theorem dX7_readCond_2 : decode cX7_readCond 2 = .ok (.aload_n 2, 1) := by decide +kernel
theorem dX7_readCond_3 : decode cX7_readCond 3 = .ok (.iload_n 3, 1) := by decide +kernel
theorem dX7_readCond_4 : decode cX7_readCond 4 = .ok (.invokevirtual 54, 3) := by decide +kernel
theorem dX7_readCond_7 : decode cX7_readCond 7 = .ok (.istore 4, 2) := by decide +kernel
theorem dX7_readCond_9 : decode cX7_readCond 9 = .ok (.iconst 0, 1) := by decide +kernel
theorem dX7_readCond_10 : decode cX7_readCond 10 = .ok (.istore 5, 2) := by decide +kernel
theorem dX7_readCond_12 : decode cX7_readCond 12 = .ok (.iload 5, 2) := by decide +kernel
theorem dX7_readCond_14 : decode cX7_readCond 14 = .ok (.bipush 20, 2) := by decide +kernel
theorem dX7_readCond_16 : decode cX7_readCond 16 = .ok (.if_icmp .ge 55, 3) := by decide +kernel
theorem dX7_readCond_19 : decode cX7_readCond 19 = .ok (.iload 4, 2) := by decide +kernel
theorem dX7_readCond_21 : decode cX7_readCond 21 = .ok (.ifCond .eq 50, 3) := by decide +kernel
theorem dX7_readCond_24 : decode cX7_readCond 24 = .ok (.aload_n 1, 1) := by decide +kernel
theorem dX7_readCond_25 : decode cX7_readCond 25 = .ok (.getfield 57, 3) := by decide +kernel
theorem dX7_readCond_28 : decode cX7_readCond 28 = .ok (.bipush 17, 2) := by decide +kernel
theorem dX7_readCond_30 : decode cX7_readCond 30 = .ok (.if_icmp .ne 41, 3) := by decide +kernel
theorem dX7_readCond_33 : decode cX7_readCond 33 = .ok (.aload_n 1, 1) := by decide +kernel
theorem dX7_readCond_34 : decode cX7_readCond 34 = .ok (.invokevirtual 60, 3) := by decide +kernel
theorem dX7_readCond_37 : decode cX7_readCond 37 = .ok (.aload_n 0, 1) := by decide +kernel
theorem dX7_readCond_38 : decode cX7_readCond 38 = .ok (.aload_n 1, 1) := by decide +kernel
theorem dX7_readCond_39 : decode cX7_readCond 39 = .ok (.aload_n 2, 1) := by decide +kernel
theorem dX7_readCond_40 : decode cX7_readCond 40 = .ok (.iload_n 3, 1) := by decide +kernel
theorem dX7_readCond_41 : decode cX7_readCond 41 = .ok (.invokevirtual 54, 3) := by decide +kernel
theorem dX7_readCond_44 : decode cX7_readCond 44 = .ok (.ifCond .eq 18, 3) := by decide +kernel
theorem dX7_readCond_47 : decode cX7_readCond 47 = .ok (.aload_n 0, 1) := by decide +kernel
theorem dX7_readCond_48 : decode cX7_readCond 48 = .ok (.bipush 17, 2) := by decide +kernel
theorem dX7_readCond_50 : decode cX7_readCond 50 = .ok (.iconst 0, 1) := by decide +kernel
theorem dX7_readCond_51 : decode cX7_readCond 51 = .ok (.iconst 0, 1) := by decide +kernel
theorem dX7_readCond_52 : decode cX7_readCond 52 = .ok (.invokevirtual 63, 3) := by decide +kernel
theorem dX7_readCond_55 : decode cX7_readCond 55 = .ok (.ifCond .eq 7, 3) := by decide +kernel
theorem dX7_readCond_58 : decode cX7_readCond 58 = .ok (.iconst 1, 1) := by decide +kernel
theorem dX7_readCond_59 : decode cX7_readCond 59 = .ok (.goto 4, 3) := by decide +kernel
theorem dX7_readCond_62 : decode cX7_readCond 62 = .ok (.iconst 0, 1) := by decide +kernel
theorem dX7_readCond_63 : decode cX7_readCond 63 = .ok (.istore 4, 2) := by decide +kernel
theorem dX7_readCond_65 : decode cX7_readCond 65 = .ok (.iinc 5 1, 3) := by decide +kernel
theorem dX7_readCond_68 : decode cX7_readCond 68 = .ok (.goto (-56), 3) := by decide +kernel
theorem dX7_readCond_71 : decode cX7_readCond 71 = .ok (.iload 4, 2) := by decide +kernel
theorem dX7_readCond_73 : decode cX7_readCond 73 = .ok (.ireturn, 1) := by decide +kernel
theorem dX7_readOne_0 : decode cX7_readOne 0 = .ok (.aload_n 1, 1) := by decide +kernel
theorem dX7_readOne_1 : decode cX7_readOne 1 = .ok (.getfield 57, 3) := by decide +kernel
theorem dX7_readOne_4 : decode cX7_readOne 4 = .ok (.istore 4, 2) := by decide +kernel
theorem dX7_readOne_6 : decode cX7_readOne 6 = .ok (.iload 4, 2) := by decide +kernel
theorem dX7_readOne_8 : decode cX7_readOne 8 = .ok (.invokestatic 70, 3) := by decide +kernel
theorem dX7_readOne_11 : decode cX7_readOne 11 = .ok (.ifCond .ne 9, 3) := by decide +kernel
theorem dX7_readOne_14 : decode cX7_readOne 14 = .ok (.aload_n 1, 1) := by decide +kernel
theorem dX7_readOne_15 : decode cX7_readOne 15 = .ok (.iconst 1, 1) := by decide +kernel
theorem dX7_readOne_16 : decode cX7_readOne 16 = .ok (.invokevirtual 73, 3) := by decide +kernel
theorem dX7_readOne_19 : decode cX7_readOne 19 = .ok (.ireturn, 1) := by decide +kernel
theorem dX7_readOne_20 : decode cX7_readOne 20 = .ok (.aload_n 0, 1) := by decide +kernel
theorem dX7_readOne_21 : decode cX7_readOne 21 = .ok (.getfield 28, 3) := by decide +kernel
theorem dX7_readOne_24 : decode cX7_readOne 24 = .ok (.bipush 20, 2) := by decide +kernel
theorem dX7_readOne_26 : decode cX7_readOne 26 = .ok (.if_icmp .ge 9, 3) := by decide +kernel
theorem dX7_readOne_29 : decode cX7_readOne 29 = .ok (.iload_n 3, 1) := by decide +kernel
theorem dX7_readOne_30 : decode cX7_readOne 30 = .ok (.bipush 8, 2) := by decide +kernel
theorem dX7_readOne_32 : decode cX7_readOne 32 = .ok (.if_icmp .le 9, 3) := by decide +kernel
theorem dX7_readOne_35 : decode cX7_readOne 35 = .ok (.aload_n 1, 1) := by decide +kernel
theorem dX7_readOne_36 : decode cX7_readOne 36 = .ok (.iconst 4, 1) := by decide +kernel
theorem dX7_readOne_37 : decode cX7_readOne 37 = .ok (.invokevirtual 73, 3) := by decide +kernel
theorem dX7_readOne_40 : decode cX7_readOne 40 = .ok (.ireturn, 1) := by decide +kernel
theorem dX7_readOne_41 : decode cX7_readOne 41 = .ok (.aload_n 0, 1) := by decide +kernel
theorem dX7_readOne_42 : decode cX7_readOne 42 = .ok (.dup, 1) := by decide +kernel
theorem dX7_readOne_43 : decode cX7_readOne 43 = .ok (.getfield 28, 3) := by decide +kernel
theorem dX7_readOne_46 : decode cX7_readOne 46 = .ok (.iconst 1, 1) := by decide +kernel
theorem dX7_readOne_47 : decode cX7_readOne 47 = .ok (.iadd, 1) := by decide +kernel
theorem dX7_readOne_48 : decode cX7_readOne 48 = .ok (.putfield 28, 3) := by decide +kernel
theorem dX7_readOne_51 : decode cX7_readOne 51 = .ok (.aload_n 1, 1) := by decide +kernel
theorem dX7_readOne_52 : decode cX7_readOne 52 = .ok (.invokevirtual 60, 3) := by decide +kernel
theorem dX7_readOne_55 : decode cX7_readOne 55 = .ok (.iload 4, 2) := by decide +kernel
theorem dX7_readOne_57 : decode cX7_readOne 57 = .ok (.bipush 40, 2) := by decide +kernel
theorem dX7_readOne_59 : decode cX7_readOne 59 = .ok (.if_icmp .ne 30, 3) := by decide +kernel
theorem dX7_readOne_62 : decode cX7_readOne 62 = .ok (.aload_n 0, 1) := by decide +kernel
theorem dX7_readOne_63 : decode cX7_readOne 63 = .ok (.aload_n 1, 1) := by decide +kernel
theorem dX7_readOne_64 : decode cX7_readOne 64 = .ok (.aload_n 2, 1) := by decide +kernel
theorem dX7_readOne_65 : decode cX7_readOne 65 = .ok (.iload_n 3, 1) := by decide +kernel
theorem dX7_readOne_66 : decode cX7_readOne 66 = .ok (.iconst 1, 1) := by decide +kernel
theorem dX7_readOne_67 : decode cX7_readOne 67 = .ok (.iadd, 1) := by decide +kernel
theorem dX7_readOne_68 : decode cX7_readOne 68 = .ok (.invokevirtual 46, 3) := by decide +kernel
theorem dX7_readOne_71 : decode cX7_readOne 71 = .ok (.ifCond .eq 16, 3) := by decide +kernel
theorem dX7_readOne_87 : decode cX7_readOne 87 = .ok (.iconst 0, 1) := by decide +kernel
theorem dX7_readOne_88 : decode cX7_readOne 88 = .ok (.ireturn, 1) := by decide +kernel
theorem dX7_readOne_89 : decode cX7_readOne 89 = .ok (.iload 4, 2) := by decide +kernel
theorem dX7_readOne_91 : decode cX7_readOne 91 = .ok (.bipush 19, 2) := by decide +kernel
theorem dX7_readOne_93 : decode cX7_readOne 93 = .ok (.if_icmp .ne 32, 3) := by decide +kernel
theorem dX7_readOne_96 : decode cX7_readOne 96 = .ok (.aload_n 0, 1) := by decide +kernel
theorem dX7_readOne_97 : decode cX7_readOne 97 = .ok (.aload_n 1, 1) := by decide +kernel
theorem dX7_readOne_98 : decode cX7_readOne 98 = .ok (.aload_n 2, 1) := by decide +kernel
theorem dX7_readOne_99 : decode cX7_readOne 99 = .ok (.iload_n 3, 1) := by decide +kernel
theorem dX7_readOne_100 : decode cX7_readOne 100 = .ok (.iconst 1, 1) := by decide +kernel
theorem dX7_readOne_101 : decode cX7_readOne 101 = .ok (.iadd, 1) := by decide +kernel
theorem dX7_readOne_102 : decode cX7_readOne 102 = .ok (.invokevirtual 67, 3) := by decide +kernel
theorem dX7_readOne_105 : decode cX7_readOne 105 = .ok (.ifCond .eq 18, 3) := by decide +kernel
theorem dX7_readOne_123 : decode cX7_readOne 123 = .ok (.iconst 0, 1) := by decide +kernel
theorem dX7_readOne_124 : decode cX7_readOne 124 = .ok (.ireturn, 1) := by decide +kernel
theorem dX7_readOne_125 : decode cX7_readOne 125 = .ok (.aload_n 0, 1) := by decide +kernel
theorem dX7_readOne_126 : decode cX7_readOne 126 = .ok (.aload_n 1, 1) := by decide +kernel
theorem dX7_readOne_127 : decode cX7_readOne 127 = .ok (.aload_n 2, 1) := by decide +kernel
theorem dX7_readOne_128 : decode cX7_readOne 128 = .ok (.iload 4, 2) := by decide +kernel
theorem dX7_readOne_130 : decode cX7_readOne 130 = .ok (.invokevirtual 76, 3) := by decide +kernel
theorem dX7_readOne_133 : decode cX7_readOne 133 = .ok (.ireturn, 1) := by decide +kernel
theorem dX7_readPlainOne_0 : decode cX7_readPlainOne 0 = .ok (.iload_n 3, 1) := by decide +kernel
theorem dX7_readPlainOne_1 : decode cX7_readPlainOne 1 = .ok (.iconst 5, 1) := by decide +kernel
theorem dX7_readPlainOne_2 : decode cX7_readPlainOne 2 = .ok (.if_icmp .ne 40, 3) := by decide +kernel
theorem dX7_readPlainOne_5 : decode cX7_readPlainOne 5 = .ok (.aload_n 1, 1) := by decide +kernel
theorem dX7_readPlainOne_6 : decode cX7_readPlainOne 6 = .ok (.aload_n 2, 1) := by decide +kernel
theorem dX7_readPlainOne_7 : decode cX7_readPlainOne 7 = .ok (.aload_n 1, 1) := by decide +kernel
theorem dX7_readPlainOne_8 : decode cX7_readPlainOne 8 = .ok (.getfield 79, 3) := by decide +kernel
theorem dX7_readPlainOne_11 : decode cX7_readPlainOne 11 = .ok (.invokevirtual 83, 3) := by decide +kernel
theorem dX7_readPlainOne_14 : decode cX7_readPlainOne 14 = .ok (.invokevirtual 89, 3) := by decide +kernel
theorem dX7_readPlainOne_17 : decode cX7_readPlainOne 17 = .ok (.istore 4, 2) := by decide +kernel
theorem dX7_readPlainOne_19 : decode cX7_readPlainOne 19 = .ok (.iload 4, 2) := by decide +kernel
theorem dX7_readPlainOne_21 : decode cX7_readPlainOne 21 = .ok (.iconst (-1), 1) := by decide +kernel
theorem dX7_readPlainOne_22 : decode cX7_readPlainOne 22 = .ok (.if_icmp .eq 18, 3) := by decide +kernel
theorem dX7_readPlainOne_25 : decode cX7_readPlainOne 25 = .ok (.aload_n 0, 1) := by decide +kernel
theorem dX7_readPlainOne_26 : decode cX7_readPlainOne 26 = .ok (.iload_n 3, 1) := by decide +kernel
theorem dX7_readPlainOne_27 : decode cX7_readPlainOne 27 = .ok (.iconst 0, 1) := by decide +kernel
theorem dX7_readPlainOne_28 : decode cX7_readPlainOne 28 = .ok (.iload 4, 2) := by decide +kernel
theorem dX7_readPlainOne_30 : decode cX7_readPlainOne 30 = .ok (.invokevirtual 63, 3) := by decide +kernel
theorem dX7_readPlainOne_33 : decode cX7_readPlainOne 33 = .ok (.ifCond .eq 7, 3) := by decide +kernel
theorem dX7_readPlainOne_36 : decode cX7_readPlainOne 36 = .ok (.iconst 1, 1) := by decide +kernel
theorem dX7_readPlainOne_37 : decode cX7_readPlainOne 37 = .ok (.goto 4, 3) := by decide +kernel
theorem dX7_readPlainOne_40 : decode cX7_readPlainOne 40 = .ok (.iconst 0, 1) := by decide +kernel
theorem dX7_readPlainOne_41 : decode cX7_readPlainOne 41 = .ok (.ireturn, 1) := by decide +kernel
theorem dX7_readPlainOne_42 : decode cX7_readPlainOne 42 = .ok (.iload_n 3, 1) := by decide +kernel
theorem dX7_readPlainOne_43 : decode cX7_readPlainOne 43 = .ok (.bipush 23, 2) := by decide +kernel
theorem dX7_readPlainOne_45 : decode cX7_readPlainOne 45 = .ok (.if_icmp .ne 40, 3) := by decide +kernel
theorem dX7_readPlainOne_48 : decode cX7_readPlainOne 48 = .ok (.aload_n 1, 1) := by decide +kernel
theorem dX7_readPlainOne_49 : decode cX7_readPlainOne 49 = .ok (.aload_n 2, 1) := by decide +kernel
theorem dX7_readPlainOne_50 : decode cX7_readPlainOne 50 = .ok (.aload_n 1, 1) := by decide +kernel
theorem dX7_readPlainOne_51 : decode cX7_readPlainOne 51 = .ok (.getfield 79, 3) := by decide +kernel
theorem dX7_readPlainOne_54 : decode cX7_readPlainOne 54 = .ok (.invokevirtual 93, 3) := by decide +kernel
theorem dX7_readPlainOne_57 : decode cX7_readPlainOne 57 = .ok (.invokevirtual 89, 3) := by decide +kernel
theorem dX7_readPlainOne_60 : decode cX7_readPlainOne 60 = .ok (.istore 4, 2) := by decide +kernel
theorem dX7_readPlainOne_62 : decode cX7_readPlainOne 62 = .ok (.iload 4, 2) := by decide +kernel
theorem dX7_readPlainOne_64 : decode cX7_readPlainOne 64 = .ok (.iconst (-1), 1) := by decide +kernel
theorem dX7_readPlainOne_65 : decode cX7_readPlainOne 65 = .ok (.if_icmp .eq 18, 3) := by decide +kernel
theorem dX7_readPlainOne_68 : decode cX7_readPlainOne 68 = .ok (.aload_n 0, 1) := by decide +kernel
theorem dX7_readPlainOne_69 : decode cX7_readPlainOne 69 = .ok (.iload_n 3, 1) := by decide +kernel
theorem dX7_readPlainOne_70 : decode cX7_readPlainOne 70 = .ok (.iconst 0, 1) := by decide +kernel
theorem dX7_readPlainOne_71 : decode cX7_readPlainOne 71 = .ok (.iload 4, 2) := by decide +kernel
theorem dX7_readPlainOne_73 : decode cX7_readPlainOne 73 = .ok (.invokevirtual 63, 3) := by decide +kernel
theorem dX7_readPlainOne_76 : decode cX7_readPlainOne 76 = .ok (.ifCond .eq 7, 3) := by decide +kernel
theorem dX7_readPlainOne_79 : decode cX7_readPlainOne 79 = .ok (.iconst 1, 1) := by decide +kernel
theorem dX7_readPlainOne_80 : decode cX7_readPlainOne 80 = .ok (.goto 4, 3) := by decide +kernel
theorem dX7_readPlainOne_83 : decode cX7_readPlainOne 83 = .ok (.iconst 0, 1) := by decide +kernel
theorem dX7_readPlainOne_84 : decode cX7_readPlainOne 84 = .ok (.ireturn, 1) := by decide +kernel
theorem dX7_readPlainOne_85 : decode cX7_readPlainOne 85 = .ok (.iload_n 3, 1) := by decide +kernel
theorem dX7_readPlainOne_86 : decode cX7_readPlainOne 86 = .ok (.bipush 23, 2) := by decide +kernel
theorem dX7_readPlainOne_88 : decode cX7_readPlainOne 88 = .ok (.if_icmp .ge 11, 3) := by decide +kernel
theorem dX7_readPlainOne_91 : decode cX7_readPlainOne 91 = .ok (.aload_n 0, 1) := by decide +kernel
theorem dX7_readPlainOne_92 : decode cX7_readPlainOne 92 = .ok (.iload_n 3, 1) := by decide +kernel
theorem dX7_readPlainOne_93 : decode cX7_readPlainOne 93 = .ok (.iconst 0, 1) := by decide +kernel
theorem dX7_readPlainOne_94 : decode cX7_readPlainOne 94 = .ok (.iconst 0, 1) := by decide +kernel
theorem dX7_readPlainOne_95 : decode cX7_readPlainOne 95 = .ok (.invokevirtual 63, 3) := by decide +kernel
theorem dX7_readPlainOne_98 : decode cX7_readPlainOne 98 = .ok (.ireturn, 1) := by decide +kernel
theorem dX7_readPlainOne_99 : decode cX7_readPlainOne 99 = .ok (.aload_n 1, 1) := by decide +kernel
theorem dX7_readPlainOne_100 : decode cX7_readPlainOne 100 = .ok (.getfield 57, 3) := by decide +kernel
theorem dX7_readPlainOne_103 : decode cX7_readPlainOne 103 = .ok (.istore 4, 2) := by decide +kernel
theorem dX7_readPlainOne_105 : decode cX7_readPlainOne 105 = .ok (.iload 4, 2) := by decide +kernel
theorem dX7_readPlainOne_107 : decode cX7_readPlainOne 107 = .ok (.bipush 60, 2) := by decide +kernel
theorem dX7_readPlainOne_109 : decode cX7_readPlainOne 109 = .ok (.if_icmp .eq 23, 3) := by decide +kernel
theorem dX7_readPlainOne_112 : decode cX7_readPlainOne 112 = .ok (.iload 4, 2) := by decide +kernel
theorem dX7_readPlainOne_114 : decode cX7_readPlainOne 114 = .ok (.bipush 61, 2) := by decide +kernel
theorem dX7_readPlainOne_116 : decode cX7_readPlainOne 116 = .ok (.if_icmp .eq 16, 3) := by decide +kernel
theorem dX7_readPlainOne_119 : decode cX7_readPlainOne 119 = .ok (.iload 4, 2) := by decide +kernel
theorem dX7_readPlainOne_121 : decode cX7_readPlainOne 121 = .ok (.bipush 62, 2) := by decide +kernel
theorem dX7_readPlainOne_123 : decode cX7_readPlainOne 123 = .ok (.if_icmp .eq 9, 3) := by decide +kernel
theorem dX7_readPlainOne_126 : decode cX7_readPlainOne 126 = .ok (.aload_n 1, 1) := by decide +kernel
theorem dX7_readPlainOne_127 : decode cX7_readPlainOne 127 = .ok (.iconst 1, 1) := by decide +kernel
theorem dX7_readPlainOne_128 : decode cX7_readPlainOne 128 = .ok (.invokevirtual 73, 3) := by decide +kernel
theorem dX7_readPlainOne_131 : decode cX7_readPlainOne 131 = .ok (.ireturn, 1) := by decide +kernel
theorem dX7_readPlainOne_132 : decode cX7_readPlainOne 132 = .ok (.aload_n 1, 1) := by decide +kernel
theorem dX7_readPlainOne_133 : decode cX7_readPlainOne 133 = .ok (.invokevirtual 60, 3) := by decide +kernel
theorem dX7_readPlainOne_136 : decode cX7_readPlainOne 136 = .ok (.aload_n 1, 1) := by decide +kernel
theorem dX7_readPlainOne_137 : decode cX7_readPlainOne 137 = .ok (.iconst 0, 1) := by decide +kernel
theorem dX7_readPlainOne_138 : decode cX7_readPlainOne 138 = .ok (.sipush 999, 3) := by decide +kernel
theorem dX7_readPlainOne_141 : decode cX7_readPlainOne 141 = .ok (.invokevirtual 96, 3) := by decide +kernel
theorem dX7_readPlainOne_144 : decode cX7_readPlainOne 144 = .ok (.istore 5, 2) := by decide +kernel
theorem dX7_readPlainOne_146 : decode cX7_readPlainOne 146 = .ok (.iload 5, 2) := by decide +kernel
theorem dX7_readPlainOne_148 : decode cX7_readPlainOne 148 = .ok (.iconst (-1), 1) := by decide +kernel
theorem dX7_readPlainOne_149 : decode cX7_readPlainOne 149 = .ok (.if_icmp .eq 19, 3) := by decide +kernel
theorem dX7_readPlainOne_152 : decode cX7_readPlainOne 152 = .ok (.aload_n 0, 1) := by decide +kernel
theorem dX7_readPlainOne_153 : decode cX7_readPlainOne 153 = .ok (.iload_n 3, 1) := by decide +kernel
theorem dX7_readPlainOne_154 : decode cX7_readPlainOne 154 = .ok (.iload 4, 2) := by decide +kernel
theorem dX7_readPlainOne_156 : decode cX7_readPlainOne 156 = .ok (.iload 5, 2) := by decide +kernel
theorem dX7_readPlainOne_158 : decode cX7_readPlainOne 158 = .ok (.invokevirtual 63, 3) := by decide +kernel
theorem dX7_readPlainOne_161 : decode cX7_readPlainOne 161 = .ok (.ifCond .eq 7, 3) := by decide +kernel
theorem dX7_readPlainOne_164 : decode cX7_readPlainOne 164 = .ok (.iconst 1, 1) := by decide +kernel
theorem dX7_readPlainOne_165 : decode cX7_readPlainOne 165 = .ok (.goto 4, 3) := by decide +kernel
theorem dX7_readPlainOne_168 : decode cX7_readPlainOne 168 = .ok (.iconst 0, 1) := by decide +kernel
theorem dX7_readPlainOne_169 : decode cX7_readPlainOne 169 = .ok (.ireturn, 1) := by decide +kernel
theorem rc_m1000 : Rg (-1000) (-1000) (-1000) := ⟨by decide, by decide⟩
theorem rc_m2 : Rg (-2) (-2) (-2) := ⟨by decide, by decide⟩
theorem rc_17 : Rg 17 17 17 := ⟨by decide, by decide⟩
theorem rc_18 : Rg 18 18 18 := ⟨by decide, by decide⟩
theorem rc_19 : Rg 19 19 19 := ⟨by decide, by decide⟩
theorem rc_23 : Rg 23 23 23 := ⟨by decide, by decide⟩
theorem rc_27 : Rg 27 27 27 := ⟨by decide, by decide⟩
theorem rc_400 : Rg 400 400 400 := ⟨by decide, by decide⟩
theorem rc_999 : Rg 999 999 999 := ⟨by decide, by decide⟩
set_option maxRecDepth 100000 in
set_option maxHeartbeats 8000000 in
theorem c_X0_readLine {l : Launch} {D : va_G} {cy : Nat → ClassId} {L : List Nat} {κ ln : Nat → Nat} {R : Nat → Nat → Option Nat} {I : Nat → Nat → Int32} {J : Nat → Nat → Int64} {ow : Nat → Nat × Nat} (W9 : ∀ a ∈ L, Shp L κ ln R ow a) {x : Nat} (hLx : x ∈ L) (hkx : κ x = 0) {a0 : Nat} (hLa0 : a0 ∈ L) (hka0 : κ a0 = 10) {a1 : Nat} (hLa1 : a1 ∈ L) (hka1 : κ a1 = 8) (hU : Iv L κ R ow I) : CtI l yX0_readLine cX0_readLine 5 (some .boolean) { frames := 3, cells := 0, slots := 0, locals := 70 } D cy L κ ln R I J [.ref x, .ref a0, .ref a1] (fun r I2 J2 => Iv L κ R ow I2 ∧ Fq L κ ow [1007, 1008, 1009, 1011, 1012, 10000, 10100, 10200, 10300] I I2 ∧ Fq L κ ow [1010] J J2 ∧ Rg 0 1 r ∧ ((r, TPf R I2 J2 a0, KPf R I2 J2 x) = fBkLine (TBf R I J a1) (TPf R I J a0) (KPf R I J x)) ∧ (¬ r = 0 → bk_ R I2 x (I2 x 4).toNatClampNeg) ∧ (¬ r = 0 → Rg 0 39 (I2 x 4))) := by
  refine CtI.of (by decide +kernel) (Nat.le_of_ble_eq_true rfl) ?_
  intro p e s m below meth c B K
  have C := B.1
  have hF : Fq L κ ow [1007, 1008, 1009, 1011, 1012, 10000, 10100, 10200, 10300] I I := fq_rf
  have hG : Fq L κ ow [1010] J J := fq_rf
  obtain ⟨b_1, hb_1, hb_1L, hb_1k, hb_1n, hb_1o⟩ := shp_a (W9 x hLx) hkx 1 14 40 rfl (by decide)
  obtain ⟨b_2, hb_2, hb_2L, hb_2k, hb_2n, hb_2o⟩ := shp_a (W9 a1 hLa1) hka1 0 15 7 rfl (by decide)
  obtain ⟨b_3, hb_3, hb_3L, hb_3k, hb_3n, hb_3o⟩ := shp_a (W9 a1 hLa1) hka1 2 14 7 rfl (by decide)
  obtain ⟨b_4, hb_4, hb_4L, hb_4k, hb_4n, hb_4o⟩ := shp_a (W9 a1 hLa1) hka1 3 15 6 rfl (by decide)
  have ebqa1 : ∀ I J, TBf R I J a1 = TBq I J a1 b_2 b_3 b_4 := fun I J => by simp only [TBf, rr_, Option.getD_some, hb_2, hb_3, hb_4]
  have wbqa1 : bqw_ L κ ow a1 b_2 b_3 b_4 := ⟨⟨hLa1, hb_2L, hb_3L, hb_4L⟩, ⟨(ro_o hka1 (by decide)), (ro_a hb_2k (by decide) hb_2o hka1 rfl), (ro_a hb_3k (by decide) hb_3o hka1 rfl), (ro_a hb_4k (by decide) hb_4o hka1 rfl)⟩⟩
  obtain ⟨s_5, hs_5⟩ : ∃ z, TBq I J a1 b_2 b_3 b_4 = z := ⟨_, rfl⟩
  obtain ⟨b_6, hb_6, hb_6L, hb_6k, hb_6n, hb_6o⟩ := shp_a (W9 a0 hLa0) hka0 0 13 940 rfl (by decide)
  obtain ⟨b_7, hb_7, hb_7L, hb_7k, hb_7n, hb_7o⟩ := shp_a (W9 a0 hLa0) hka0 1 15 28 rfl (by decide)
  obtain ⟨b_8, hb_8, hb_8L, hb_8k, hb_8n, hb_8o⟩ := shp_a (W9 a0 hLa0) hka0 2 14 901 rfl (by decide)
  obtain ⟨b_9, hb_9, hb_9L, hb_9k, hb_9n, hb_9o⟩ := shp_a (W9 a0 hLa0) hka0 3 14 901 rfl (by decide)
  obtain ⟨b_10, hb_10, hb_10L, hb_10k, hb_10n, hb_10o⟩ := shp_a (W9 a0 hLa0) hka0 4 15 901 rfl (by decide)
  have etqa0 : ∀ I J, TPf R I J a0 = TPq I J a0 b_6 b_7 b_8 b_9 b_10 := fun I J => by simp only [TPf, rr_, Option.getD_some, hb_6, hb_7, hb_8, hb_9, hb_10]
  have wtqa0 : tqw_ L κ ow a0 b_6 b_7 b_8 b_9 b_10 := ⟨⟨hLa0, hb_6L, hb_7L, hb_8L, hb_9L, hb_10L⟩, ⟨(ro_o hka0 (by decide)), (ro_a hb_6k (by decide) hb_6o hka0 rfl), (ro_a hb_7k (by decide) hb_7o hka0 rfl), (ro_a hb_8k (by decide) hb_8o hka0 rfl), (ro_a hb_9k (by decide) hb_9o hka0 rfl), (ro_a hb_10k (by decide) hb_10o hka0 rfl)⟩⟩
  obtain ⟨s_11, hs_11⟩ : ∃ z, TPq I J a0 b_6 b_7 b_8 b_9 b_10 = z := ⟨_, rfl⟩
  have eyqx : ∀ I J, KPf R I J x = KPq I J x b_1 := fun I J => by simp only [KPf, rr_, Option.getD_some, hb_1]
  have wyqx : yqw_ L κ ow x b_1 := ⟨⟨hLx, hb_1L⟩, ⟨(ro_o hkx (by decide)), (ro_a hb_1k (by decide) hb_1o hkx rfl)⟩⟩
  obtain ⟨s_12, hs_12⟩ : ∃ z, KPq I J x b_1 = z := ⟨_, rfl⟩
  refine g_lo (is := [0, 1, 2]) (lo2 := [(0, .ref x), (1, .ref a0), (2, .ref a1)]) rfl ?_
  refine g_aload_n C 1 dX0_readLine_0 rfl rfl ?_
  obtain ⟨x_13, hx_13, rx_13⟩ := ex_get (I := I) (a := a0) (j := 8) (lo := (-2147483648)) (hi := 2147483647) hU.1 hLa0 (ro_o hka0 (by decide)) rfl
  have f_14 : s_11.token = x_13 := (congrArg TP_.token hs_11).symm.trans hx_13
  refine g_getI C K hLa0 hka0 f_0_50 (v := x_13) hx_13 dX0_readLine_1 ?_
  refine g_bipush C (v := 100) dX0_readLine_4 (by decide) ?_
  refine g_icmp_ne C (tgt := 13) dX0_readLine_6 (by decide) (fun h_15 => ?_) (fun h_15 => ?_)
  · skip
    have n_16 : ¬ x_13 = 100 := h_15
    refine g_iconst C (v := 0) dX0_readLine_13 (by decide) ?_
    refine g_istore_n C dX0_readLine_14 rfl (by decide) (lo2 := [(3, .int 0), (0, .ref x), (1, .ref a0), (2, .ref a1)]) rfl ?_
    refine g_iload_n C 0 dX0_readLine_15 rfl rfl ?_
    refine g_if_ne C (tgt := 34) dX0_readLine_16 (by decide) (fun h_17 => ?_) (fun h_17 => ?_)
    · skip
      exact absurd (h_17) (by decide)
    · skip
      refine g_aload_n C 2 dX0_readLine_19 rfl rfl ?_
      refine g_getI C K hLa0 hka0 f_0_50 (v := x_13) hx_13 dX0_readLine_20 ?_
      refine g_bipush C (v := 16) dX0_readLine_23 (by decide) ?_
      refine g_icmp_eq C (tgt := 34) dX0_readLine_25 (by decide) (fun h_18 => ?_) (fun h_18 => ?_)
      · skip
        have r_19 := (⟨(eq_rg (h_18) rc_16).1, (eq_rg (h_18) rc_16).2⟩ : Rg 16 16 x_13)
        refine g_iload_n C 0 dX0_readLine_34 rfl rfl ?_
        refine g_if_eq C (tgt := 49) dX0_readLine_35 (by decide) (fun h_20 => ?_) (fun h_20 => ?_)
        · skip
          refine g_iconst C (v := (-1)) dX0_readLine_49 (by decide) ?_
          refine g_istore C dX0_readLine_50 (by decide) (lo2 := [(4, .int (-1)), (3, .int 0), (0, .ref x), (1, .ref a0), (2, .ref a1)]) rfl ?_
          refine g_iload_n C 1 dX0_readLine_52 rfl rfl ?_
          refine g_if_eq C (tgt := 68) dX0_readLine_53 (by decide) (fun h_21 => ?_) (fun h_21 => ?_)
          · skip
            refine g_aload_n C 2 dX0_readLine_68 rfl rfl ?_
            obtain ⟨x_22, hx_22, rx_22⟩ := ex_get (I := I) (a := x) (j := 4) (lo := 0) (hi := 40) hU.1 hLx (ro_o hkx (by decide)) rfl
            have f_23 : s_12.bl = x_22 := (congrArg KP_.bl hs_12).symm.trans hx_22
            refine g_getI C K hLx hkx f_0_24 (v := x_22) hx_22 dX0_readLine_69 ?_
            refine g_bipush C (v := 40) dX0_readLine_72 (by decide) ?_
            refine g_icmp_lt C (tgt := 83) dX0_readLine_74 (by decide) (fun h_24 => ?_) (fun h_24 => ?_)
            · skip
              have r_25 := lt_l (hi := 39) (h_24) rx_22 rc_40 (by decide)
              refine g_aload_n C 2 dX0_readLine_83 rfl rfl ?_
              refine g_getR C K hLx hkx f_0_15 hb_1 dX0_readLine_84 ?_
              refine g_aload_n C 2 dX0_readLine_87 rfl rfl ?_
              refine g_getI C K hLx hkx f_0_24 (v := x_22) hx_22 dX0_readLine_88 ?_
              refine g_iload C 0 dX0_readLine_91 rfl ?_
              refine h_iast C K hb_1L hb_1k (x_22.toNatClampNeg) (rfl) (ix_0 r_25 (by decide)) (ix_lt r_25 (by decide) hb_1n (by decide)) dX0_readLine_93 (fun I_26 hI_26 => ?_)
              have hU_27 := iv_row W9 hU (uv_put hU.1 hI_26 (ro_a hb_1k (by decide) hb_1o hkx rfl) (lo := (-1)) (hi := 6) (rfl) (rg_w rc_m1 (by decide) (by decide))) hI_26 (ro_a hb_1k (by decide) hb_1o hkx rfl) hb_1o (by decide) hx_22 rfl
              have hF_28 := fq_puta hF hI_26 (ro_a hb_1k (by decide) hb_1o hkx rfl) (by decide) (by decide)
              have hs_29 : TBq I_26 J a1 b_2 b_3 b_4 = s_5 := by rw [hI_26]; exact (bq_oI wbqa1 (ro_a hb_1k (by decide) hb_1o hkx rfl) (by decide)).trans hs_5
              have hs_30 : TPq I_26 J a0 b_6 b_7 b_8 b_9 b_10 = s_11 := by rw [hI_26]; exact (tq_oI wtqa0 (ro_a hb_1k (by decide) hb_1o hkx rfl) (by decide)).trans hs_11
              have hs_31 : KPq I_26 J x b_1 = (KP_.w_bw s_12 (up1 (s_12.bw) (x_22.toNatClampNeg) ((-1)))) := by rw [hI_26]; exact ((yq_bw wyqx).trans (congrArg (fun z : KP_ => KP_.w_bw z (up1 (z.bw) (x_22.toNatClampNeg) ((-1)))) hs_12)).trans rfl
              refine g_iload_n C 1 dX0_readLine_94 rfl rfl ?_
              refine g_if_eq C (tgt := 102) dX0_readLine_95 (by decide) (fun h_32 => ?_) (fun h_32 => ?_)
              · skip
                refine g_aload_n C 2 dX0_readLine_102 rfl rfl ?_
                refine g_aload_n C 3 dX0_readLine_103 rfl rfl ?_
                refine g_aload_n C 4 dX0_readLine_104 rfl rfl ?_
                refine g_callVI C K (c_X0_readAct W9 hLx hkx hLa0 hka0 hLa1 hka1  hU_27  (eq_rg (kp_k (κ := κ) hI_26 (by rw [hkx, hb_1k]; decide) hx_22) (r_25))) hLx hkx (by decide) rfl v_0_74 rfl ⟨rfl, rfl⟩ ⟨Nat.le_of_ble_eq_true rfl, Nat.le_of_ble_eq_true rfl⟩ (Nat.le_of_ble_eq_true rfl) ⟨Nat.le_of_ble_eq_true rfl, Nat.le_of_ble_eq_true rfl⟩ dX0_readLine_105 rfl (st := []) (fun x_33 I_34 J_35 h_36 => ?_)
                obtain ⟨hUI_34, hFI_34, hGJ_35, rx_33, fx_33, ex_33⟩ := h_36
                have hF_37 := fq_tr hF_28 hFI_34 (by decide)
                have hG_38 := fq_tr hG hGJ_35 (by decide)
                obtain ⟨s_40, hs_40⟩ : ∃ z, TPq I_34 J_35 a0 b_6 b_7 b_8 b_9 b_10 = z := ⟨_, rfl⟩
                have c_39 : fReadAct (s_5) ((KP_.w_bw s_12 (up1 (s_12.bw) (x_22.toNatClampNeg) ((-1))))) (s_11) = (x_33, s_40) := by have q := fx_33; simp only [ebqa1, eyqx, etqa0, hs_29, hs_31, hs_30, hs_40] at q; exact q.symm
                have hs_41 : TBq I_34 J_35 a1 b_2 b_3 b_4 = s_5 := (bq_fq wbqa1 hFI_34 hGJ_35 (by decide) (by decide)).trans hs_29
                have hs_42 : KPq I_34 J_35 x b_1 = (KP_.w_bw s_12 (up1 (s_12.bw) (x_22.toNatClampNeg) ((-1)))) := (yq_fq wyqx hFI_34 hGJ_35 (by decide) (by decide)).trans hs_31
                refine g_if_eq C (tgt := 124) dX0_readLine_108 (by decide) (fun h_43 => ?_) (fun h_43 => ?_)
                · skip
                  have r_44 := (⟨(rx_33).1, (eq_rg (h_43) rc_0).2⟩ : Rg 0 0 x_33)
                  refine g_iconst C (v := 0) dX0_readLine_124 (by decide) ?_
                  exact g_zret (ty := .boolean) (r := 0) B K rfl (rfl) ⟨hUI_34, hF_37, hG_38, rg_w rc_0 (by decide) (by decide), (by (try simp only [hx_13, f_14, h_15, (eq_true h_17), (eq_true h_18), (eq_true h_20), (eq_true h_21), hx_22, f_23, h_24, (eq_true h_32), (eq_true h_43), if_true, if_false, bqM_pnm, bqM_par, bqM_dnm, bqM_persons, bqM_dishes, bqM_law, bqM_dogs, TB_.w_pnm, TB_.w_par, TB_.w_dnm, TB_.w_persons, TB_.w_dishes, TB_.w_law, TB_.w_dogs, yqM_bw, yqM_bl, KP_.w_bw, KP_.w_bl, tqM_by_, tqM_wd, tqM_tk, tqM_pl, tqM_vl, tqM_len, tqM_n, tqM_at_, tqM_token, tqM_place, tqM_value, tqM_fault, tqM_fat, TP_.w_by_, TP_.w_wd, TP_.w_tk, TP_.w_pl, TP_.w_vl, TP_.w_len, TP_.w_n, TP_.w_at_, TP_.w_token, TP_.w_place, TP_.w_value, TP_.w_fault, TP_.w_fat] at c_39); simp only [fBkLine, fBk2, fFailK, ebqa1, hs_41, hs_5, etqa0, hs_40, hs_11, eyqx, hs_42, hs_12, hx_13, f_14, h_15, (eq_true h_17), (eq_true h_18), (eq_true h_20), (eq_true h_21), hx_22, f_23, h_24, (eq_true h_32), c_39, (eq_true h_43), if_true, if_false, bqM_pnm, bqM_par, bqM_dnm, bqM_persons, bqM_dishes, bqM_law, bqM_dogs, TB_.w_pnm, TB_.w_par, TB_.w_dnm, TB_.w_persons, TB_.w_dishes, TB_.w_law, TB_.w_dogs, yqM_bw, yqM_bl, KP_.w_bw, KP_.w_bl, tqM_by_, tqM_wd, tqM_tk, tqM_pl, tqM_vl, tqM_len, tqM_n, tqM_at_, tqM_token, tqM_place, tqM_value, tqM_fault, tqM_fat, TP_.w_by_, TP_.w_wd, TP_.w_tk, TP_.w_pl, TP_.w_vl, TP_.w_len, TP_.w_n, TP_.w_at_, TP_.w_token, TP_.w_place, TP_.w_value, TP_.w_fault, TP_.w_fat]), (fun q => absurd rfl q), (fun q => absurd rfl q)⟩ dX0_readLine_125
                · skip
                  have n_45 : ¬ x_33 = 0 := h_43
                  have r_46 := ne_lo (lo := 1) n_45 rx_33 rc_0 rfl (by decide)
                  refine g_aload_n C 3 dX0_readLine_111 rfl rfl ?_
                  refine g_bipush C (v := 59) dX0_readLine_112 (by decide) ?_
                  refine g_callVI C K (c_X10_take W9 hLa0 hka0 59 (rg_w rc_59 (by decide) (by decide)) hUI_34) hLa0 hka0 (by decide) rfl v_0_77 rfl ⟨rfl, rfl⟩ ⟨Nat.le_of_ble_eq_true rfl, Nat.le_of_ble_eq_true rfl⟩ (Nat.le_of_ble_eq_true rfl) ⟨Nat.le_of_ble_eq_true rfl, Nat.le_of_ble_eq_true rfl⟩ dX0_readLine_114 rfl (st := []) (fun x_47 I_48 J_49 h_50 => ?_)
                  obtain ⟨hUI_48, hFI_48, hGJ_49, rx_47, fx_47⟩ := h_50
                  have hF_51 := fq_tr hF_37 hFI_48 (by decide)
                  have hG_52 := fq_tr hG_38 hGJ_49 (by decide)
                  obtain ⟨s_54, hs_54⟩ : ∃ z, TPq I_48 J_49 a0 b_6 b_7 b_8 b_9 b_10 = z := ⟨_, rfl⟩
                  have c_53 : fTake (59) (s_40) = (x_47, s_54) := by have q := fx_47; simp only [etqa0, hs_40, hs_54] at q; exact q.symm
                  have hs_55 : TBq I_48 J_49 a1 b_2 b_3 b_4 = s_5 := (bq_fq wbqa1 hFI_48 hGJ_49 (by decide) (by decide)).trans hs_41
                  have hs_56 : KPq I_48 J_49 x b_1 = (KP_.w_bw s_12 (up1 (s_12.bw) (x_22.toNatClampNeg) ((-1)))) := (yq_fq wyqx hFI_48 hGJ_49 (by decide) (by decide)).trans hs_42
                  refine g_if_eq C (tgt := 124) dX0_readLine_117 (by decide) (fun h_57 => ?_) (fun h_57 => ?_)
                  · skip
                    have r_58 := (⟨(rx_47).1, (eq_rg (h_57) rc_0).2⟩ : Rg 0 0 x_47)
                    refine g_iconst C (v := 0) dX0_readLine_124 (by decide) ?_
                    exact g_zret (ty := .boolean) (r := 0) B K rfl (rfl) ⟨hUI_48, hF_51, hG_52, rg_w rc_0 (by decide) (by decide), (by (try simp only [hx_13, f_14, h_15, (eq_true h_17), (eq_true h_18), (eq_true h_20), (eq_true h_21), hx_22, f_23, h_24, (eq_true h_32), h_43, c_53, (eq_true h_57), if_true, if_false, bqM_pnm, bqM_par, bqM_dnm, bqM_persons, bqM_dishes, bqM_law, bqM_dogs, TB_.w_pnm, TB_.w_par, TB_.w_dnm, TB_.w_persons, TB_.w_dishes, TB_.w_law, TB_.w_dogs, yqM_bw, yqM_bl, KP_.w_bw, KP_.w_bl, tqM_by_, tqM_wd, tqM_tk, tqM_pl, tqM_vl, tqM_len, tqM_n, tqM_at_, tqM_token, tqM_place, tqM_value, tqM_fault, tqM_fat, TP_.w_by_, TP_.w_wd, TP_.w_tk, TP_.w_pl, TP_.w_vl, TP_.w_len, TP_.w_n, TP_.w_at_, TP_.w_token, TP_.w_place, TP_.w_value, TP_.w_fault, TP_.w_fat] at c_39); simp only [fBkLine, fBk2, fFailK, ebqa1, hs_55, hs_5, etqa0, hs_54, hs_11, eyqx, hs_56, hs_12, hx_13, f_14, h_15, (eq_true h_17), (eq_true h_18), (eq_true h_20), (eq_true h_21), hx_22, f_23, h_24, (eq_true h_32), c_39, h_43, c_53, (eq_true h_57), if_true, if_false, bqM_pnm, bqM_par, bqM_dnm, bqM_persons, bqM_dishes, bqM_law, bqM_dogs, TB_.w_pnm, TB_.w_par, TB_.w_dnm, TB_.w_persons, TB_.w_dishes, TB_.w_law, TB_.w_dogs, yqM_bw, yqM_bl, KP_.w_bw, KP_.w_bl, tqM_by_, tqM_wd, tqM_tk, tqM_pl, tqM_vl, tqM_len, tqM_n, tqM_at_, tqM_token, tqM_place, tqM_value, tqM_fault, tqM_fat, TP_.w_by_, TP_.w_wd, TP_.w_tk, TP_.w_pl, TP_.w_vl, TP_.w_len, TP_.w_n, TP_.w_at_, TP_.w_token, TP_.w_place, TP_.w_value, TP_.w_fault, TP_.w_fat]), (fun q => absurd rfl q), (fun q => absurd rfl q)⟩ dX0_readLine_125
                  · skip
                    have n_59 : ¬ x_47 = 0 := h_57
                    have r_60 := ne_lo (lo := 1) n_59 rx_47 rc_0 rfl (by decide)
                    refine g_iconst C (v := 1) dX0_readLine_120 (by decide) ?_
                    refine g_goto C (tgt := 125) dX0_readLine_121 (by decide) ?_
                    exact g_zret (ty := .boolean) (r := 1) B K rfl (rfl) ⟨hUI_48, hF_51, hG_52, rg_w rc_1 (by decide) (by decide), (by (try simp only [hx_13, f_14, h_15, (eq_true h_17), (eq_true h_18), (eq_true h_20), (eq_true h_21), hx_22, f_23, h_24, (eq_true h_32), h_43, c_53, h_57, if_true, if_false, bqM_pnm, bqM_par, bqM_dnm, bqM_persons, bqM_dishes, bqM_law, bqM_dogs, TB_.w_pnm, TB_.w_par, TB_.w_dnm, TB_.w_persons, TB_.w_dishes, TB_.w_law, TB_.w_dogs, yqM_bw, yqM_bl, KP_.w_bw, KP_.w_bl, tqM_by_, tqM_wd, tqM_tk, tqM_pl, tqM_vl, tqM_len, tqM_n, tqM_at_, tqM_token, tqM_place, tqM_value, tqM_fault, tqM_fat, TP_.w_by_, TP_.w_wd, TP_.w_tk, TP_.w_pl, TP_.w_vl, TP_.w_len, TP_.w_n, TP_.w_at_, TP_.w_token, TP_.w_place, TP_.w_value, TP_.w_fault, TP_.w_fat] at c_39); simp only [fBkLine, fBk2, fFailK, ebqa1, hs_55, hs_5, etqa0, hs_54, hs_11, eyqx, hs_56, hs_12, hx_13, f_14, h_15, (eq_true h_17), (eq_true h_18), (eq_true h_20), (eq_true h_21), hx_22, f_23, h_24, (eq_true h_32), c_39, h_43, c_53, h_57, if_true, if_false, bqM_pnm, bqM_par, bqM_dnm, bqM_persons, bqM_dishes, bqM_law, bqM_dogs, TB_.w_pnm, TB_.w_par, TB_.w_dnm, TB_.w_persons, TB_.w_dishes, TB_.w_law, TB_.w_dogs, yqM_bw, yqM_bl, KP_.w_bw, KP_.w_bl, tqM_by_, tqM_wd, tqM_tk, tqM_pl, tqM_vl, tqM_len, tqM_n, tqM_at_, tqM_token, tqM_place, tqM_value, tqM_fault, tqM_fat, TP_.w_by_, TP_.w_wd, TP_.w_tk, TP_.w_pl, TP_.w_vl, TP_.w_len, TP_.w_n, TP_.w_at_, TP_.w_token, TP_.w_place, TP_.w_value, TP_.w_fault, TP_.w_fat]), (fun _ => (bk_fq W9 hLx hkx (ex_33 (rg_nz r_46 (by decide))) hFI_48 (by decide))), (fun _ => eq_rg (fq_at hFI_48 hLx hkx (by decide) (by decide) (fq_at hFI_34 hLx hkx (by decide) (by decide) (kp_k (κ := κ) hI_26 (by rw [hkx, hb_1k]; decide) hx_22))) (r_25))⟩ dX0_readLine_125
              · skip
                exact absurd (h_32) (by decide)
            · skip
              have r_61 := le_r (nlt h_24) rc_40 rx_22
              refine g_aload_n C 3 dX0_readLine_77 rfl rfl ?_
              refine g_iconst C (v := 4) dX0_readLine_78 (by decide) ?_
              refine g_callVI C K (c_X10_fail W9 hLa0 hka0 4 (rg_w rc_4 (by decide) (by decide)) hU) hLa0 hka0 (by decide) rfl v_0_57 rfl ⟨rfl, rfl⟩ ⟨Nat.le_of_ble_eq_true rfl, Nat.le_of_ble_eq_true rfl⟩ (Nat.le_of_ble_eq_true rfl) ⟨Nat.le_of_ble_eq_true rfl, Nat.le_of_ble_eq_true rfl⟩ dX0_readLine_79 rfl (st := []) (fun x_62 I_63 J_64 h_65 => ?_)
              obtain ⟨hUI_63, hFI_63, hGJ_64, rx_62, fx_62⟩ := h_65
              have hF_66 := fq_tr hF hFI_63 (by decide)
              have hG_67 := fq_tr hG hGJ_64 (by decide)
              obtain ⟨s_69, hs_69⟩ : ∃ z, TPq I_63 J_64 a0 b_6 b_7 b_8 b_9 b_10 = z := ⟨_, rfl⟩
              have c_68 : fFail (4) (s_11) = (x_62, s_69) := by have q := fx_62; simp only [etqa0, hs_11, hs_69] at q; exact q.symm
              have hs_70 : TBq I_63 J_64 a1 b_2 b_3 b_4 = s_5 := (bq_fq wbqa1 hFI_63 hGJ_64 (by decide) (by decide)).trans hs_5
              have hs_71 : KPq I_63 J_64 x b_1 = s_12 := (yq_fq wyqx hFI_63 hGJ_64 (by decide) (by decide)).trans hs_12
              exact g_zret (ty := .boolean) (r := x_62) B K rfl (nar_z (rg_w rx_62 (by decide) (by decide))) ⟨hUI_63, hF_66, hG_67, rg_w rx_62 (by decide) (by decide), (by simp only [fBkLine, fBk2, fFailK, ebqa1, hs_70, hs_5, etqa0, hs_69, hs_11, eyqx, hs_71, hs_12, hx_13, f_14, h_15, (eq_true h_17), (eq_true h_18), (eq_true h_20), (eq_true h_21), hx_22, f_23, h_24, (nlt h_24), c_68, if_true, if_false, bqM_pnm, bqM_par, bqM_dnm, bqM_persons, bqM_dishes, bqM_law, bqM_dogs, TB_.w_pnm, TB_.w_par, TB_.w_dnm, TB_.w_persons, TB_.w_dishes, TB_.w_law, TB_.w_dogs, yqM_bw, yqM_bl, KP_.w_bw, KP_.w_bl, tqM_by_, tqM_wd, tqM_tk, tqM_pl, tqM_vl, tqM_len, tqM_n, tqM_at_, tqM_token, tqM_place, tqM_value, tqM_fault, tqM_fat, TP_.w_by_, TP_.w_wd, TP_.w_tk, TP_.w_pl, TP_.w_vl, TP_.w_len, TP_.w_n, TP_.w_at_, TP_.w_token, TP_.w_place, TP_.w_value, TP_.w_fault, TP_.w_fat]), (fun q => ne_no q rx_62 rc_0), (fun q => ne_no q rx_62 rc_0)⟩ dX0_readLine_82
          · skip
            exact absurd (h_21) (by decide)
        · skip
          exact absurd (h_20) (by decide)
      · skip
        have n_72 : ¬ x_13 = 16 := h_18
        refine g_aload_n C 2 dX0_readLine_28 rfl rfl ?_
        refine g_iconst C (v := 1) dX0_readLine_29 (by decide) ?_
        refine g_callVI C K (c_X10_fail W9 hLa0 hka0 1 (rg_w rc_1 (by decide) (by decide)) hU) hLa0 hka0 (by decide) rfl v_0_57 rfl ⟨rfl, rfl⟩ ⟨Nat.le_of_ble_eq_true rfl, Nat.le_of_ble_eq_true rfl⟩ (Nat.le_of_ble_eq_true rfl) ⟨Nat.le_of_ble_eq_true rfl, Nat.le_of_ble_eq_true rfl⟩ dX0_readLine_30 rfl (st := []) (fun x_73 I_74 J_75 h_76 => ?_)
        obtain ⟨hUI_74, hFI_74, hGJ_75, rx_73, fx_73⟩ := h_76
        have hF_77 := fq_tr hF hFI_74 (by decide)
        have hG_78 := fq_tr hG hGJ_75 (by decide)
        obtain ⟨s_80, hs_80⟩ : ∃ z, TPq I_74 J_75 a0 b_6 b_7 b_8 b_9 b_10 = z := ⟨_, rfl⟩
        have c_79 : fFail (1) (s_11) = (x_73, s_80) := by have q := fx_73; simp only [etqa0, hs_11, hs_80] at q; exact q.symm
        have hs_81 : TBq I_74 J_75 a1 b_2 b_3 b_4 = s_5 := (bq_fq wbqa1 hFI_74 hGJ_75 (by decide) (by decide)).trans hs_5
        have hs_82 : KPq I_74 J_75 x b_1 = s_12 := (yq_fq wyqx hFI_74 hGJ_75 (by decide) (by decide)).trans hs_12
        exact g_zret (ty := .boolean) (r := x_73) B K rfl (nar_z (rg_w rx_73 (by decide) (by decide))) ⟨hUI_74, hF_77, hG_78, rg_w rx_73 (by decide) (by decide), (by simp only [fBkLine, fBk2, fFailK, ebqa1, hs_81, hs_5, etqa0, hs_80, hs_11, eyqx, hs_82, hs_12, hx_13, f_14, h_15, (eq_true h_17), h_18, c_79, if_true, if_false, bqM_pnm, bqM_par, bqM_dnm, bqM_persons, bqM_dishes, bqM_law, bqM_dogs, TB_.w_pnm, TB_.w_par, TB_.w_dnm, TB_.w_persons, TB_.w_dishes, TB_.w_law, TB_.w_dogs, yqM_bw, yqM_bl, KP_.w_bw, KP_.w_bl, tqM_by_, tqM_wd, tqM_tk, tqM_pl, tqM_vl, tqM_len, tqM_n, tqM_at_, tqM_token, tqM_place, tqM_value, tqM_fault, tqM_fat, TP_.w_by_, TP_.w_wd, TP_.w_tk, TP_.w_pl, TP_.w_vl, TP_.w_len, TP_.w_n, TP_.w_at_, TP_.w_token, TP_.w_place, TP_.w_value, TP_.w_fault, TP_.w_fat]), (fun q => ne_no q rx_73 rc_0), (fun q => ne_no q rx_73 rc_0)⟩ dX0_readLine_33
  · skip
    have r_83 := (⟨(eq_rg (h_15) rc_100).1, (eq_rg (h_15) rc_100).2⟩ : Rg 100 100 x_13)
    refine g_iconst C (v := 1) dX0_readLine_9 (by decide) ?_
    refine g_goto C (tgt := 14) dX0_readLine_10 (by decide) ?_
    refine g_istore_n C dX0_readLine_14 rfl (by decide) (lo2 := [(3, .int 1), (0, .ref x), (1, .ref a0), (2, .ref a1)]) rfl ?_
    refine g_iload_n C 0 dX0_readLine_15 rfl rfl ?_
    refine g_if_ne C (tgt := 34) dX0_readLine_16 (by decide) (fun h_84 => ?_) (fun h_84 => ?_)
    · skip
      refine g_iload_n C 0 dX0_readLine_34 rfl rfl ?_
      refine g_if_eq C (tgt := 49) dX0_readLine_35 (by decide) (fun h_85 => ?_) (fun h_85 => ?_)
      · skip
        exact absurd (h_85) (by decide)
      · skip
        refine g_aload_n C 3 dX0_readLine_38 rfl rfl ?_
        refine g_aload_n C 2 dX0_readLine_39 rfl rfl ?_
        obtain ⟨y_86, hy_86⟩ : ∃ z, J a0 10 = z := ⟨_, rfl⟩
        have f_87 : s_11.value = y_86 := (congrArg TP_.value hs_11).symm.trans hy_86
        refine g_getJ C K hLa0 hka0 f_0_61 (v := y_86) hy_86 dX0_readLine_40 ?_
        refine g_callVI C K (c_X8_personNamed W9 hLa1 hka1 y_86  hU) hLa1 hka1 (by decide) rfl v_0_65 rfl ⟨rfl, rfl⟩ ⟨Nat.le_of_ble_eq_true rfl, Nat.le_of_ble_eq_true rfl⟩ (Nat.le_of_ble_eq_true rfl) ⟨Nat.le_of_ble_eq_true rfl, Nat.le_of_ble_eq_true rfl⟩ dX0_readLine_43 rfl (st := []) (fun x_88 I_89 J_90 h_91 => ?_)
        obtain ⟨rfl, rfl, rx_88, fx_88⟩ := h_91
        have c_92 : fPersonNamed (y_86) (s_5) = x_88 := by have q := fx_88; simp only [ebqa1, hs_5] at q; exact q.symm
        refine g_goto C (tgt := 50) dX0_readLine_46 (by decide) ?_
        refine g_istore C dX0_readLine_50 (by decide) (lo2 := [(4, .int x_88), (3, .int 1), (0, .ref x), (1, .ref a0), (2, .ref a1)]) rfl ?_
        refine g_iload_n C 1 dX0_readLine_52 rfl rfl ?_
        refine g_if_eq C (tgt := 68) dX0_readLine_53 (by decide) (fun h_93 => ?_) (fun h_93 => ?_)
        · skip
          exact absurd (h_93) (by decide)
        · skip
          refine g_iload C 0 dX0_readLine_56 rfl ?_
          refine g_iconst C (v := (-1)) dX0_readLine_58 (by decide) ?_
          refine g_icmp_ne C (tgt := 68) dX0_readLine_59 (by decide) (fun h_94 => ?_) (fun h_94 => ?_)
          · skip
            have n_95 : ¬ x_88 = (-1) := h_94
            have r_96 := ne_lo (lo := 0) n_95 rx_88 rc_m1 rfl (by decide)
            refine g_aload_n C 2 dX0_readLine_68 rfl rfl ?_
            obtain ⟨x_97, hx_97, rx_97⟩ := ex_get (I := I) (a := x) (j := 4) (lo := 0) (hi := 40) hU.1 hLx (ro_o hkx (by decide)) rfl
            have f_98 : s_12.bl = x_97 := (congrArg KP_.bl hs_12).symm.trans hx_97
            refine g_getI C K hLx hkx f_0_24 (v := x_97) hx_97 dX0_readLine_69 ?_
            refine g_bipush C (v := 40) dX0_readLine_72 (by decide) ?_
            refine g_icmp_lt C (tgt := 83) dX0_readLine_74 (by decide) (fun h_99 => ?_) (fun h_99 => ?_)
            · skip
              have r_100 := lt_l (hi := 39) (h_99) rx_97 rc_40 (by decide)
              refine g_aload_n C 2 dX0_readLine_83 rfl rfl ?_
              refine g_getR C K hLx hkx f_0_15 hb_1 dX0_readLine_84 ?_
              refine g_aload_n C 2 dX0_readLine_87 rfl rfl ?_
              refine g_getI C K hLx hkx f_0_24 (v := x_97) hx_97 dX0_readLine_88 ?_
              refine g_iload C 0 dX0_readLine_91 rfl ?_
              refine h_iast C K hb_1L hb_1k (x_97.toNatClampNeg) (rfl) (ix_0 r_100 (by decide)) (ix_lt r_100 (by decide) hb_1n (by decide)) dX0_readLine_93 (fun I_101 hI_101 => ?_)
              have hU_102 := iv_row W9 hU (uv_put hU.1 hI_101 (ro_a hb_1k (by decide) hb_1o hkx rfl) (lo := (-1)) (hi := 6) (rfl) (rg_w r_96 (by decide) (by decide))) hI_101 (ro_a hb_1k (by decide) hb_1o hkx rfl) hb_1o (by decide) hx_97 rfl
              have hF_103 := fq_puta hF hI_101 (ro_a hb_1k (by decide) hb_1o hkx rfl) (by decide) (by decide)
              have hs_104 : TBq I_101 J a1 b_2 b_3 b_4 = s_5 := by rw [hI_101]; exact (bq_oI wbqa1 (ro_a hb_1k (by decide) hb_1o hkx rfl) (by decide)).trans hs_5
              have hs_105 : TPq I_101 J a0 b_6 b_7 b_8 b_9 b_10 = s_11 := by rw [hI_101]; exact (tq_oI wtqa0 (ro_a hb_1k (by decide) hb_1o hkx rfl) (by decide)).trans hs_11
              have hs_106 : KPq I_101 J x b_1 = (KP_.w_bw s_12 (up1 (s_12.bw) (x_97.toNatClampNeg) (x_88))) := by rw [hI_101]; exact ((yq_bw wyqx).trans (congrArg (fun z : KP_ => KP_.w_bw z (up1 (z.bw) (x_97.toNatClampNeg) (x_88))) hs_12)).trans rfl
              refine g_iload_n C 1 dX0_readLine_94 rfl rfl ?_
              refine g_if_eq C (tgt := 102) dX0_readLine_95 (by decide) (fun h_107 => ?_) (fun h_107 => ?_)
              · skip
                exact absurd (h_107) (by decide)
              · skip
                refine g_aload_n C 3 dX0_readLine_98 rfl rfl ?_
                refine g_callVV C K (c_X10_advance W9 hLa0 hka0   hU_102) hLa0 hka0 (by decide) rfl v_0_71 rfl ⟨rfl, rfl⟩ ⟨Nat.le_of_ble_eq_true rfl, Nat.le_of_ble_eq_true rfl⟩ (Nat.le_of_ble_eq_true rfl) ⟨Nat.le_of_ble_eq_true rfl, Nat.le_of_ble_eq_true rfl⟩ dX0_readLine_99 rfl (st := []) (fun I_109 J_110 h_111 => ?_)
                obtain ⟨hUI_109, hFI_109, hGJ_110, fx_108⟩ := h_111
                have hF_112 := fq_tr hF_103 hFI_109 (by decide)
                have hG_113 := fq_tr hG hGJ_110 (by decide)
                obtain ⟨s_115, hs_115⟩ : ∃ z, TPq I_109 J_110 a0 b_6 b_7 b_8 b_9 b_10 = z := ⟨_, rfl⟩
                have c_114 : fAdvance (s_11) = s_115 := by have q := fx_108; simp only [etqa0, hs_105, hs_115] at q; exact q.symm
                have hs_116 : TBq I_109 J_110 a1 b_2 b_3 b_4 = s_5 := (bq_fq wbqa1 hFI_109 hGJ_110 (by decide) (by decide)).trans hs_104
                have hs_117 : KPq I_109 J_110 x b_1 = (KP_.w_bw s_12 (up1 (s_12.bw) (x_97.toNatClampNeg) (x_88))) := (yq_fq wyqx hFI_109 hGJ_110 (by decide) (by decide)).trans hs_106
                refine g_aload_n C 2 dX0_readLine_102 rfl rfl ?_
                refine g_aload_n C 3 dX0_readLine_103 rfl rfl ?_
                refine g_aload_n C 4 dX0_readLine_104 rfl rfl ?_
                refine g_callVI C K (c_X0_readAct W9 hLx hkx hLa0 hka0 hLa1 hka1  hUI_109  (eq_rg (fq_at hFI_109 hLx hkx (by decide) (by decide) (kp_k (κ := κ) hI_101 (by rw [hkx, hb_1k]; decide) hx_97)) (r_100))) hLx hkx (by decide) rfl v_0_74 rfl ⟨rfl, rfl⟩ ⟨Nat.le_of_ble_eq_true rfl, Nat.le_of_ble_eq_true rfl⟩ (Nat.le_of_ble_eq_true rfl) ⟨Nat.le_of_ble_eq_true rfl, Nat.le_of_ble_eq_true rfl⟩ dX0_readLine_105 rfl (st := []) (fun x_118 I_119 J_120 h_121 => ?_)
                obtain ⟨hUI_119, hFI_119, hGJ_120, rx_118, fx_118, ex_118⟩ := h_121
                have hF_122 := fq_tr hF_112 hFI_119 (by decide)
                have hG_123 := fq_tr hG_113 hGJ_120 (by decide)
                obtain ⟨s_125, hs_125⟩ : ∃ z, TPq I_119 J_120 a0 b_6 b_7 b_8 b_9 b_10 = z := ⟨_, rfl⟩
                have c_124 : fReadAct (s_5) ((KP_.w_bw s_12 (up1 (s_12.bw) (x_97.toNatClampNeg) (x_88)))) (s_115) = (x_118, s_125) := by have q := fx_118; simp only [ebqa1, eyqx, etqa0, hs_116, hs_117, hs_115, hs_125] at q; exact q.symm
                have hs_126 : TBq I_119 J_120 a1 b_2 b_3 b_4 = s_5 := (bq_fq wbqa1 hFI_119 hGJ_120 (by decide) (by decide)).trans hs_116
                have hs_127 : KPq I_119 J_120 x b_1 = (KP_.w_bw s_12 (up1 (s_12.bw) (x_97.toNatClampNeg) (x_88))) := (yq_fq wyqx hFI_119 hGJ_120 (by decide) (by decide)).trans hs_117
                refine g_if_eq C (tgt := 124) dX0_readLine_108 (by decide) (fun h_128 => ?_) (fun h_128 => ?_)
                · skip
                  have r_129 := (⟨(rx_118).1, (eq_rg (h_128) rc_0).2⟩ : Rg 0 0 x_118)
                  refine g_iconst C (v := 0) dX0_readLine_124 (by decide) ?_
                  exact g_zret (ty := .boolean) (r := 0) B K rfl (rfl) ⟨hUI_119, hF_122, hG_123, rg_w rc_0 (by decide) (by decide), (by (try simp only [hx_13, f_14, (eq_true h_15), h_84, h_85, hy_86, f_87, c_92, h_93, h_94, hx_97, f_98, h_99, h_107, c_114, (eq_true h_128), if_true, if_false, bqM_pnm, bqM_par, bqM_dnm, bqM_persons, bqM_dishes, bqM_law, bqM_dogs, TB_.w_pnm, TB_.w_par, TB_.w_dnm, TB_.w_persons, TB_.w_dishes, TB_.w_law, TB_.w_dogs, yqM_bw, yqM_bl, KP_.w_bw, KP_.w_bl, tqM_by_, tqM_wd, tqM_tk, tqM_pl, tqM_vl, tqM_len, tqM_n, tqM_at_, tqM_token, tqM_place, tqM_value, tqM_fault, tqM_fat, TP_.w_by_, TP_.w_wd, TP_.w_tk, TP_.w_pl, TP_.w_vl, TP_.w_len, TP_.w_n, TP_.w_at_, TP_.w_token, TP_.w_place, TP_.w_value, TP_.w_fault, TP_.w_fat] at c_124); simp only [fBkLine, fBk2, fFailK, ebqa1, hs_126, hs_5, etqa0, hs_125, hs_11, eyqx, hs_127, hs_12, hx_13, f_14, (eq_true h_15), h_84, h_85, hy_86, f_87, c_92, h_93, h_94, hx_97, f_98, h_99, h_107, c_114, c_124, (eq_true h_128), if_true, if_false, bqM_pnm, bqM_par, bqM_dnm, bqM_persons, bqM_dishes, bqM_law, bqM_dogs, TB_.w_pnm, TB_.w_par, TB_.w_dnm, TB_.w_persons, TB_.w_dishes, TB_.w_law, TB_.w_dogs, yqM_bw, yqM_bl, KP_.w_bw, KP_.w_bl, tqM_by_, tqM_wd, tqM_tk, tqM_pl, tqM_vl, tqM_len, tqM_n, tqM_at_, tqM_token, tqM_place, tqM_value, tqM_fault, tqM_fat, TP_.w_by_, TP_.w_wd, TP_.w_tk, TP_.w_pl, TP_.w_vl, TP_.w_len, TP_.w_n, TP_.w_at_, TP_.w_token, TP_.w_place, TP_.w_value, TP_.w_fault, TP_.w_fat]), (fun q => absurd rfl q), (fun q => absurd rfl q)⟩ dX0_readLine_125
                · skip
                  have n_130 : ¬ x_118 = 0 := h_128
                  have r_131 := ne_lo (lo := 1) n_130 rx_118 rc_0 rfl (by decide)
                  refine g_aload_n C 3 dX0_readLine_111 rfl rfl ?_
                  refine g_bipush C (v := 59) dX0_readLine_112 (by decide) ?_
                  refine g_callVI C K (c_X10_take W9 hLa0 hka0 59 (rg_w rc_59 (by decide) (by decide)) hUI_119) hLa0 hka0 (by decide) rfl v_0_77 rfl ⟨rfl, rfl⟩ ⟨Nat.le_of_ble_eq_true rfl, Nat.le_of_ble_eq_true rfl⟩ (Nat.le_of_ble_eq_true rfl) ⟨Nat.le_of_ble_eq_true rfl, Nat.le_of_ble_eq_true rfl⟩ dX0_readLine_114 rfl (st := []) (fun x_132 I_133 J_134 h_135 => ?_)
                  obtain ⟨hUI_133, hFI_133, hGJ_134, rx_132, fx_132⟩ := h_135
                  have hF_136 := fq_tr hF_122 hFI_133 (by decide)
                  have hG_137 := fq_tr hG_123 hGJ_134 (by decide)
                  obtain ⟨s_139, hs_139⟩ : ∃ z, TPq I_133 J_134 a0 b_6 b_7 b_8 b_9 b_10 = z := ⟨_, rfl⟩
                  have c_138 : fTake (59) (s_125) = (x_132, s_139) := by have q := fx_132; simp only [etqa0, hs_125, hs_139] at q; exact q.symm
                  have hs_140 : TBq I_133 J_134 a1 b_2 b_3 b_4 = s_5 := (bq_fq wbqa1 hFI_133 hGJ_134 (by decide) (by decide)).trans hs_126
                  have hs_141 : KPq I_133 J_134 x b_1 = (KP_.w_bw s_12 (up1 (s_12.bw) (x_97.toNatClampNeg) (x_88))) := (yq_fq wyqx hFI_133 hGJ_134 (by decide) (by decide)).trans hs_127
                  refine g_if_eq C (tgt := 124) dX0_readLine_117 (by decide) (fun h_142 => ?_) (fun h_142 => ?_)
                  · skip
                    have r_143 := (⟨(rx_132).1, (eq_rg (h_142) rc_0).2⟩ : Rg 0 0 x_132)
                    refine g_iconst C (v := 0) dX0_readLine_124 (by decide) ?_
                    exact g_zret (ty := .boolean) (r := 0) B K rfl (rfl) ⟨hUI_133, hF_136, hG_137, rg_w rc_0 (by decide) (by decide), (by (try simp only [hx_13, f_14, (eq_true h_15), h_84, h_85, hy_86, f_87, c_92, h_93, h_94, hx_97, f_98, h_99, h_107, c_114, h_128, c_138, (eq_true h_142), if_true, if_false, bqM_pnm, bqM_par, bqM_dnm, bqM_persons, bqM_dishes, bqM_law, bqM_dogs, TB_.w_pnm, TB_.w_par, TB_.w_dnm, TB_.w_persons, TB_.w_dishes, TB_.w_law, TB_.w_dogs, yqM_bw, yqM_bl, KP_.w_bw, KP_.w_bl, tqM_by_, tqM_wd, tqM_tk, tqM_pl, tqM_vl, tqM_len, tqM_n, tqM_at_, tqM_token, tqM_place, tqM_value, tqM_fault, tqM_fat, TP_.w_by_, TP_.w_wd, TP_.w_tk, TP_.w_pl, TP_.w_vl, TP_.w_len, TP_.w_n, TP_.w_at_, TP_.w_token, TP_.w_place, TP_.w_value, TP_.w_fault, TP_.w_fat] at c_124); simp only [fBkLine, fBk2, fFailK, ebqa1, hs_140, hs_5, etqa0, hs_139, hs_11, eyqx, hs_141, hs_12, hx_13, f_14, (eq_true h_15), h_84, h_85, hy_86, f_87, c_92, h_93, h_94, hx_97, f_98, h_99, h_107, c_114, c_124, h_128, c_138, (eq_true h_142), if_true, if_false, bqM_pnm, bqM_par, bqM_dnm, bqM_persons, bqM_dishes, bqM_law, bqM_dogs, TB_.w_pnm, TB_.w_par, TB_.w_dnm, TB_.w_persons, TB_.w_dishes, TB_.w_law, TB_.w_dogs, yqM_bw, yqM_bl, KP_.w_bw, KP_.w_bl, tqM_by_, tqM_wd, tqM_tk, tqM_pl, tqM_vl, tqM_len, tqM_n, tqM_at_, tqM_token, tqM_place, tqM_value, tqM_fault, tqM_fat, TP_.w_by_, TP_.w_wd, TP_.w_tk, TP_.w_pl, TP_.w_vl, TP_.w_len, TP_.w_n, TP_.w_at_, TP_.w_token, TP_.w_place, TP_.w_value, TP_.w_fault, TP_.w_fat]), (fun q => absurd rfl q), (fun q => absurd rfl q)⟩ dX0_readLine_125
                  · skip
                    have n_144 : ¬ x_132 = 0 := h_142
                    have r_145 := ne_lo (lo := 1) n_144 rx_132 rc_0 rfl (by decide)
                    refine g_iconst C (v := 1) dX0_readLine_120 (by decide) ?_
                    refine g_goto C (tgt := 125) dX0_readLine_121 (by decide) ?_
                    have q_146 := (fq_at hFI_133 hLx hkx (by decide) (by decide) (fq_at hFI_119 hLx hkx (by decide) (by decide) (fq_at hFI_109 hLx hkx (by decide) (by decide) (kp_k (κ := κ) hI_101 (by rw [hkx, hb_1k]; decide) hx_97))))
                    exact g_zret (ty := .boolean) (r := 1) B K rfl (rfl) ⟨hUI_133, hF_136, hG_137, rg_w rc_1 (by decide) (by decide), (by (try simp only [hx_13, f_14, (eq_true h_15), h_84, h_85, hy_86, f_87, c_92, h_93, h_94, hx_97, f_98, h_99, h_107, c_114, h_128, c_138, h_142, if_true, if_false, bqM_pnm, bqM_par, bqM_dnm, bqM_persons, bqM_dishes, bqM_law, bqM_dogs, TB_.w_pnm, TB_.w_par, TB_.w_dnm, TB_.w_persons, TB_.w_dishes, TB_.w_law, TB_.w_dogs, yqM_bw, yqM_bl, KP_.w_bw, KP_.w_bl, tqM_by_, tqM_wd, tqM_tk, tqM_pl, tqM_vl, tqM_len, tqM_n, tqM_at_, tqM_token, tqM_place, tqM_value, tqM_fault, tqM_fat, TP_.w_by_, TP_.w_wd, TP_.w_tk, TP_.w_pl, TP_.w_vl, TP_.w_len, TP_.w_n, TP_.w_at_, TP_.w_token, TP_.w_place, TP_.w_value, TP_.w_fault, TP_.w_fat] at c_124); simp only [fBkLine, fBk2, fFailK, ebqa1, hs_140, hs_5, etqa0, hs_139, hs_11, eyqx, hs_141, hs_12, hx_13, f_14, (eq_true h_15), h_84, h_85, hy_86, f_87, c_92, h_93, h_94, hx_97, f_98, h_99, h_107, c_114, c_124, h_128, c_138, h_142, if_true, if_false, bqM_pnm, bqM_par, bqM_dnm, bqM_persons, bqM_dishes, bqM_law, bqM_dogs, TB_.w_pnm, TB_.w_par, TB_.w_dnm, TB_.w_persons, TB_.w_dishes, TB_.w_law, TB_.w_dogs, yqM_bw, yqM_bl, KP_.w_bw, KP_.w_bl, tqM_by_, tqM_wd, tqM_tk, tqM_pl, tqM_vl, tqM_len, tqM_n, tqM_at_, tqM_token, tqM_place, tqM_value, tqM_fault, tqM_fat, TP_.w_by_, TP_.w_wd, TP_.w_tk, TP_.w_pl, TP_.w_vl, TP_.w_len, TP_.w_n, TP_.w_at_, TP_.w_token, TP_.w_place, TP_.w_value, TP_.w_fault, TP_.w_fat]), (fun _ => (bk_fq W9 hLx hkx (ex_118 (rg_nz r_131 (by decide))) hFI_133 (by decide))), (fun _ => eq_rg q_146 (r_100))⟩ dX0_readLine_125
            · skip
              have r_147 := le_r (nlt h_99) rc_40 rx_97
              refine g_aload_n C 3 dX0_readLine_77 rfl rfl ?_
              refine g_iconst C (v := 4) dX0_readLine_78 (by decide) ?_
              refine g_callVI C K (c_X10_fail W9 hLa0 hka0 4 (rg_w rc_4 (by decide) (by decide)) hU) hLa0 hka0 (by decide) rfl v_0_57 rfl ⟨rfl, rfl⟩ ⟨Nat.le_of_ble_eq_true rfl, Nat.le_of_ble_eq_true rfl⟩ (Nat.le_of_ble_eq_true rfl) ⟨Nat.le_of_ble_eq_true rfl, Nat.le_of_ble_eq_true rfl⟩ dX0_readLine_79 rfl (st := []) (fun x_148 I_149 J_150 h_151 => ?_)
              obtain ⟨hUI_149, hFI_149, hGJ_150, rx_148, fx_148⟩ := h_151
              have hF_152 := fq_tr hF hFI_149 (by decide)
              have hG_153 := fq_tr hG hGJ_150 (by decide)
              obtain ⟨s_155, hs_155⟩ : ∃ z, TPq I_149 J_150 a0 b_6 b_7 b_8 b_9 b_10 = z := ⟨_, rfl⟩
              have c_154 : fFail (4) (s_11) = (x_148, s_155) := by have q := fx_148; simp only [etqa0, hs_11, hs_155] at q; exact q.symm
              have hs_156 : TBq I_149 J_150 a1 b_2 b_3 b_4 = s_5 := (bq_fq wbqa1 hFI_149 hGJ_150 (by decide) (by decide)).trans hs_5
              have hs_157 : KPq I_149 J_150 x b_1 = s_12 := (yq_fq wyqx hFI_149 hGJ_150 (by decide) (by decide)).trans hs_12
              exact g_zret (ty := .boolean) (r := x_148) B K rfl (nar_z (rg_w rx_148 (by decide) (by decide))) ⟨hUI_149, hF_152, hG_153, rg_w rx_148 (by decide) (by decide), (by simp only [fBkLine, fBk2, fFailK, ebqa1, hs_156, hs_5, etqa0, hs_155, hs_11, eyqx, hs_157, hs_12, hx_13, f_14, (eq_true h_15), h_84, h_85, hy_86, f_87, c_92, h_93, h_94, hx_97, f_98, h_99, (nlt h_99), c_154, if_true, if_false, bqM_pnm, bqM_par, bqM_dnm, bqM_persons, bqM_dishes, bqM_law, bqM_dogs, TB_.w_pnm, TB_.w_par, TB_.w_dnm, TB_.w_persons, TB_.w_dishes, TB_.w_law, TB_.w_dogs, yqM_bw, yqM_bl, KP_.w_bw, KP_.w_bl, tqM_by_, tqM_wd, tqM_tk, tqM_pl, tqM_vl, tqM_len, tqM_n, tqM_at_, tqM_token, tqM_place, tqM_value, tqM_fault, tqM_fat, TP_.w_by_, TP_.w_wd, TP_.w_tk, TP_.w_pl, TP_.w_vl, TP_.w_len, TP_.w_n, TP_.w_at_, TP_.w_token, TP_.w_place, TP_.w_value, TP_.w_fault, TP_.w_fat]), (fun q => ne_no q rx_148 rc_0), (fun q => ne_no q rx_148 rc_0)⟩ dX0_readLine_82
          · skip
            have r_158 := (⟨(rx_88).1, (eq_rg (h_94) rc_m1).2⟩ : Rg (-1) (-1) x_88)
            refine g_aload_n C 3 dX0_readLine_62 rfl rfl ?_
            refine g_iconst C (v := 3) dX0_readLine_63 (by decide) ?_
            refine g_callVI C K (c_X10_fail W9 hLa0 hka0 3 (rg_w rc_3 (by decide) (by decide)) hU) hLa0 hka0 (by decide) rfl v_0_57 rfl ⟨rfl, rfl⟩ ⟨Nat.le_of_ble_eq_true rfl, Nat.le_of_ble_eq_true rfl⟩ (Nat.le_of_ble_eq_true rfl) ⟨Nat.le_of_ble_eq_true rfl, Nat.le_of_ble_eq_true rfl⟩ dX0_readLine_64 rfl (st := []) (fun x_159 I_160 J_161 h_162 => ?_)
            obtain ⟨hUI_160, hFI_160, hGJ_161, rx_159, fx_159⟩ := h_162
            have hF_163 := fq_tr hF hFI_160 (by decide)
            have hG_164 := fq_tr hG hGJ_161 (by decide)
            obtain ⟨s_166, hs_166⟩ : ∃ z, TPq I_160 J_161 a0 b_6 b_7 b_8 b_9 b_10 = z := ⟨_, rfl⟩
            have c_165 : fFail (3) (s_11) = (x_159, s_166) := by have q := fx_159; simp only [etqa0, hs_11, hs_166] at q; exact q.symm
            have hs_167 : TBq I_160 J_161 a1 b_2 b_3 b_4 = s_5 := (bq_fq wbqa1 hFI_160 hGJ_161 (by decide) (by decide)).trans hs_5
            have hs_168 : KPq I_160 J_161 x b_1 = s_12 := (yq_fq wyqx hFI_160 hGJ_161 (by decide) (by decide)).trans hs_12
            exact g_zret (ty := .boolean) (r := x_159) B K rfl (nar_z (rg_w rx_159 (by decide) (by decide))) ⟨hUI_160, hF_163, hG_164, rg_w rx_159 (by decide) (by decide), (by simp only [fBkLine, fBk2, fFailK, ebqa1, hs_167, hs_5, etqa0, hs_166, hs_11, eyqx, hs_168, hs_12, hx_13, f_14, (eq_true h_15), h_84, h_85, hy_86, f_87, c_92, h_93, (eq_true h_94), c_165, if_true, if_false, bqM_pnm, bqM_par, bqM_dnm, bqM_persons, bqM_dishes, bqM_law, bqM_dogs, TB_.w_pnm, TB_.w_par, TB_.w_dnm, TB_.w_persons, TB_.w_dishes, TB_.w_law, TB_.w_dogs, yqM_bw, yqM_bl, KP_.w_bw, KP_.w_bl, tqM_by_, tqM_wd, tqM_tk, tqM_pl, tqM_vl, tqM_len, tqM_n, tqM_at_, tqM_token, tqM_place, tqM_value, tqM_fault, tqM_fat, TP_.w_by_, TP_.w_wd, TP_.w_tk, TP_.w_pl, TP_.w_vl, TP_.w_len, TP_.w_n, TP_.w_at_, TP_.w_token, TP_.w_place, TP_.w_value, TP_.w_fault, TP_.w_fat]), (fun q => ne_no q rx_159 rc_0), (fun q => ne_no q rx_159 rc_0)⟩ dX0_readLine_67
    · skip
      exact absurd (h_84) (by decide)
set_option maxRecDepth 100000 in
set_option maxHeartbeats 8000000 in
theorem c_X0_readFrom {l : Launch} {D : va_G} {cy : Nat → ClassId} {L : List Nat} {κ ln : Nat → Nat} {R : Nat → Nat → Option Nat} {I : Nat → Nat → Int32} {J : Nat → Nat → Int64} {ow : Nat → Nat × Nat} (W9 : ∀ a ∈ L, Shp L κ ln R ow a) {x : Nat} (hLx : x ∈ L) (hkx : κ x = 0) {a0 : Nat} (hLa0 : a0 ∈ L) (hka0 : κ a0 = 10) {a1 : Nat} (hLa1 : a1 ∈ L) (hka1 : κ a1 = 8) (hU : Iv L κ R ow I) : CtV l yX0_readFrom cX0_readFrom 3 none { frames := 4, cells := 0, slots := 0, locals := 94 } D cy L κ ln R I J [.ref x, .ref a0, .ref a1] (fun I2 J2 => Iv L κ R ow I2 ∧ Fq L κ ow [4, 1006, 1007, 1008, 1009, 1011, 1012, 10000, 10100, 10200, 10300, 70200, 70300] I I2 ∧ Fq L κ ow [1010, 70400] J J2 ∧ ((TPf R I2 J2 a0, KPf R I2 J2 x) = fBook (TBf R I J a1) (TPf R I J a0) (KPf R I J x))) := by
  refine CtV.of (by decide +kernel) (Nat.le_of_ble_eq_true rfl) ?_
  intro p e s m below meth c B K
  have C := B.1
  have hF : Fq L κ ow [4, 1006, 1007, 1008, 1009, 1011, 1012, 10000, 10100, 10200, 10300, 70200, 70300] I I := fq_rf
  have hG : Fq L κ ow [1010, 70400] J J := fq_rf
  obtain ⟨b_1, hb_1, hb_1L, hb_1k, hb_1n, hb_1o⟩ := shp_a (W9 a1 hLa1) hka1 0 15 7 rfl (by decide)
  obtain ⟨b_2, hb_2, hb_2L, hb_2k, hb_2n, hb_2o⟩ := shp_a (W9 a1 hLa1) hka1 2 14 7 rfl (by decide)
  obtain ⟨b_3, hb_3, hb_3L, hb_3k, hb_3n, hb_3o⟩ := shp_a (W9 a1 hLa1) hka1 3 15 6 rfl (by decide)
  have ebqa1 : ∀ I J, TBf R I J a1 = TBq I J a1 b_1 b_2 b_3 := fun I J => by simp only [TBf, rr_, Option.getD_some, hb_1, hb_2, hb_3]
  have wbqa1 : bqw_ L κ ow a1 b_1 b_2 b_3 := ⟨⟨hLa1, hb_1L, hb_2L, hb_3L⟩, ⟨(ro_o hka1 (by decide)), (ro_a hb_1k (by decide) hb_1o hka1 rfl), (ro_a hb_2k (by decide) hb_2o hka1 rfl), (ro_a hb_3k (by decide) hb_3o hka1 rfl)⟩⟩
  obtain ⟨s_4, hs_4⟩ : ∃ z, TBq I J a1 b_1 b_2 b_3 = z := ⟨_, rfl⟩
  obtain ⟨b_5, hb_5, hb_5L, hb_5k, hb_5n, hb_5o⟩ := shp_a (W9 a0 hLa0) hka0 0 13 940 rfl (by decide)
  obtain ⟨b_6, hb_6, hb_6L, hb_6k, hb_6n, hb_6o⟩ := shp_a (W9 a0 hLa0) hka0 1 15 28 rfl (by decide)
  obtain ⟨b_7, hb_7, hb_7L, hb_7k, hb_7n, hb_7o⟩ := shp_a (W9 a0 hLa0) hka0 2 14 901 rfl (by decide)
  obtain ⟨b_8, hb_8, hb_8L, hb_8k, hb_8n, hb_8o⟩ := shp_a (W9 a0 hLa0) hka0 3 14 901 rfl (by decide)
  obtain ⟨b_9, hb_9, hb_9L, hb_9k, hb_9n, hb_9o⟩ := shp_a (W9 a0 hLa0) hka0 4 15 901 rfl (by decide)
  have etqa0 : ∀ I J, TPf R I J a0 = TPq I J a0 b_5 b_6 b_7 b_8 b_9 := fun I J => by simp only [TPf, rr_, Option.getD_some, hb_5, hb_6, hb_7, hb_8, hb_9]
  have wtqa0 : tqw_ L κ ow a0 b_5 b_6 b_7 b_8 b_9 := ⟨⟨hLa0, hb_5L, hb_6L, hb_7L, hb_8L, hb_9L⟩, ⟨(ro_o hka0 (by decide)), (ro_a hb_5k (by decide) hb_5o hka0 rfl), (ro_a hb_6k (by decide) hb_6o hka0 rfl), (ro_a hb_7k (by decide) hb_7o hka0 rfl), (ro_a hb_8k (by decide) hb_8o hka0 rfl), (ro_a hb_9k (by decide) hb_9o hka0 rfl)⟩⟩
  obtain ⟨s_10, hs_10⟩ : ∃ z, TPq I J a0 b_5 b_6 b_7 b_8 b_9 = z := ⟨_, rfl⟩
  obtain ⟨b_11, hb_11, hb_11L, hb_11k, hb_11n, hb_11o⟩ := shp_a (W9 x hLx) hkx 1 14 40 rfl (by decide)
  have eyqx : ∀ I J, KPf R I J x = KPq I J x b_11 := fun I J => by simp only [KPf, rr_, Option.getD_some, hb_11]
  have wyqx : yqw_ L κ ow x b_11 := ⟨⟨hLx, hb_11L⟩, ⟨(ro_o hkx (by decide)), (ro_a hb_11k (by decide) hb_11o hkx rfl)⟩⟩
  obtain ⟨s_12, hs_12⟩ : ∃ z, KPq I J x b_11 = z := ⟨_, rfl⟩
  refine g_lo (is := [0, 1, 2]) (lo2 := [(0, .ref x), (1, .ref a0), (2, .ref a1)]) rfl ?_
  have l_12 : ∀ (n_12 : Nat) (I_13 : Nat → Nat → Int32) (J_14 : Nat → Nat → Int64) (hU_15 : Iv L κ R ow I_13) (hF_16 : Fq L κ ow [4, 1006, 1007, 1008, 1009, 1011, 1012, 10000, 10100, 10200, 10300, 70200, 70300] I I_13) (hG_17 : Fq L κ ow [1010, 70400] J J_14) (v_18 : Int32) (rv_18 : Rg 0 40 v_18) (q_19 : I_13 x 4 = v_18) (hq_20 : fBkl (TBq I_13 J_14 a1 b_1 b_2 b_3) (TPq I_13 J_14 a0 b_5 b_6 b_7 b_8 b_9) (KPq I_13 J_14 x b_11) = fBook s_4 s_10 s_12) (hm_21 : 40 < (v_18 : Int32).toInt + (n_12 : Int)), WG p l e { frames := 4, cells := 0, slots := 0, locals := 94 } s m ([.ref x, .ref a0, .ref a1] : List Value).toArray below meth c 3 0 0 (MQ below (Qv_ D cy L κ ln R (fun I2 J2 => Iv L κ R ow I2 ∧ Fq L κ ow [4, 1006, 1007, 1008, 1009, 1011, 1012, 10000, 10100, 10200, 10300, 70200, 70300] I I2 ∧ Fq L κ ow [1010, 70400] J J2 ∧ ((TPf R I2 J2 a0, KPf R I2 J2 x) = fBook (TBf R I J a1) (TPf R I J a0) (KPf R I J x)))) ([.ref x, .ref a0, .ref a1] : List Value).toArray s 0 0 (Al_ L)) D cy (Al_ L) s.heap L κ ln R I_13 J_14 12 [(0, .ref x), (1, .ref a0), (2, .ref a1)] [] := by
    intro n_12
    induction n_12 with
    | zero =>
      intro I_13 J_14 hU_15 hF_16 hG_17 v_18 rv_18 q_19 hq_20 hm_21
      exact ms_0 rv_18 hm_21
    | succ n_12 ih_12 =>
      intro I_13 J_14 hU_15 hF_16 hG_17 v_18 rv_18 q_19 hq_20 hm_21
      obtain ⟨s_22, hs_22⟩ : ∃ z, TBq I_13 J_14 a1 b_1 b_2 b_3 = z := ⟨_, rfl⟩
      obtain ⟨s_23, hs_23⟩ : ∃ z, TPq I_13 J_14 a0 b_5 b_6 b_7 b_8 b_9 = z := ⟨_, rfl⟩
      obtain ⟨s_24, hs_24⟩ : ∃ z, KPq I_13 J_14 x b_11 = z := ⟨_, rfl⟩
      simp only [hs_22, hs_23, hs_24] at hq_20
      have hQ_25 := hq_20.symm
      have f_27 : s_24.bl = v_18 := (congrArg KP_.bl hs_24).symm.trans q_19
      have u_26 := fBkl_eq (b := s_22) (t := s_23) (k := s_24) (eq_rg ((congrArg KP_.bl hs_24).symm.trans q_19) (rg_w rv_18 (by decide) (by decide)))
      refine g_aload_n C 0 dX0_readFrom_12 rfl rfl ?_
      refine g_getI C K hLx hkx f_0_24 (v := v_18) q_19 dX0_readFrom_13 ?_
      refine g_bipush C (v := 40) dX0_readFrom_16 (by decide) ?_
      refine g_icmp_gt C (tgt := 52) dX0_readFrom_18 (by decide) (fun h_28 => ?_) (fun h_28 => ?_)
      · skip
        have r_29 := lt_r (lo := 41) (h_28) rc_40 rv_18 (by decide)
        exact rg_no r_29 (by decide)
      · skip
        refine g_aload_n C 1 dX0_readFrom_21 rfl rfl ?_
        obtain ⟨x_30, hx_30, rx_30⟩ := ex_get (I := I_13) (a := a0) (j := 8) (lo := (-2147483648)) (hi := 2147483647) hU_15.1 hLa0 (ro_o hka0 (by decide)) rfl
        have f_31 : s_23.token = x_30 := (congrArg TP_.token hs_23).symm.trans hx_30
        refine g_getI C K hLa0 hka0 f_0_50 (v := x_30) hx_30 dX0_readFrom_22 ?_
        refine g_bipush C (v := 102) dX0_readFrom_25 (by decide) ?_
        refine g_icmp_eq C (tgt := 52) dX0_readFrom_27 (by decide) (fun h_32 => ?_) (fun h_32 => ?_)
        · skip
          have r_33 := (⟨(eq_rg (h_32) rc_102).1, (eq_rg (h_32) rc_102).2⟩ : Rg 102 102 x_30)
          exact g_vret B K rfl ⟨hU_15, hF_16, hG_17, (by (try simp only [f_27, h_28, (nlt h_28), hx_30, f_31, (eq_true h_32), if_true, if_false, bqM_pnm, bqM_par, bqM_dnm, bqM_persons, bqM_dishes, bqM_law, bqM_dogs, TB_.w_pnm, TB_.w_par, TB_.w_dnm, TB_.w_persons, TB_.w_dishes, TB_.w_law, TB_.w_dogs, yqM_bw, yqM_bl, KP_.w_bw, KP_.w_bl, tqM_by_, tqM_wd, tqM_tk, tqM_pl, tqM_vl, tqM_len, tqM_n, tqM_at_, tqM_token, tqM_place, tqM_value, tqM_fault, tqM_fat, TP_.w_by_, TP_.w_wd, TP_.w_tk, TP_.w_pl, TP_.w_vl, TP_.w_len, TP_.w_n, TP_.w_at_, TP_.w_token, TP_.w_place, TP_.w_value, TP_.w_fault, TP_.w_fat] at hQ_25); (try simp only [f_27, h_28, (nlt h_28), hx_30, f_31, (eq_true h_32), if_true, if_false, bqM_pnm, bqM_par, bqM_dnm, bqM_persons, bqM_dishes, bqM_law, bqM_dogs, TB_.w_pnm, TB_.w_par, TB_.w_dnm, TB_.w_persons, TB_.w_dishes, TB_.w_law, TB_.w_dogs, yqM_bw, yqM_bl, KP_.w_bw, KP_.w_bl, tqM_by_, tqM_wd, tqM_tk, tqM_pl, tqM_vl, tqM_len, tqM_n, tqM_at_, tqM_token, tqM_place, tqM_value, tqM_fault, tqM_fat, TP_.w_by_, TP_.w_wd, TP_.w_tk, TP_.w_pl, TP_.w_vl, TP_.w_len, TP_.w_n, TP_.w_at_, TP_.w_token, TP_.w_place, TP_.w_value, TP_.w_fault, TP_.w_fat] at u_26); simp only [ebqa1, hs_22, hs_4, etqa0, hs_23, hs_10, eyqx, hs_24, hs_12, hQ_25, f_27, u_26, h_28, (nlt h_28), hx_30, f_31, (eq_true h_32), if_true, if_false, bqM_pnm, bqM_par, bqM_dnm, bqM_persons, bqM_dishes, bqM_law, bqM_dogs, TB_.w_pnm, TB_.w_par, TB_.w_dnm, TB_.w_persons, TB_.w_dishes, TB_.w_law, TB_.w_dogs, yqM_bw, yqM_bl, KP_.w_bw, KP_.w_bl, tqM_by_, tqM_wd, tqM_tk, tqM_pl, tqM_vl, tqM_len, tqM_n, tqM_at_, tqM_token, tqM_place, tqM_value, tqM_fault, tqM_fat, TP_.w_by_, TP_.w_wd, TP_.w_tk, TP_.w_pl, TP_.w_vl, TP_.w_len, TP_.w_n, TP_.w_at_, TP_.w_token, TP_.w_place, TP_.w_value, TP_.w_fault, TP_.w_fat])⟩ dX0_readFrom_52
        · skip
          have n_34 : ¬ x_30 = 102 := h_32
          refine g_aload_n C 0 dX0_readFrom_30 rfl rfl ?_
          refine g_aload_n C 1 dX0_readFrom_31 rfl rfl ?_
          refine g_aload_n C 2 dX0_readFrom_32 rfl rfl ?_
          refine g_callVI C K (c_X0_readLine W9 hLx hkx hLa0 hka0 hLa1 hka1  hU_15) hLx hkx (by decide) rfl v_0_53 rfl ⟨rfl, rfl⟩ ⟨Nat.le_of_ble_eq_true rfl, Nat.le_of_ble_eq_true rfl⟩ (Nat.le_of_ble_eq_true rfl) ⟨Nat.le_of_ble_eq_true rfl, Nat.le_of_ble_eq_true rfl⟩ dX0_readFrom_33 rfl (st := []) (fun x_35 I_36 J_37 h_38 => ?_)
          obtain ⟨hUI_36, hFI_36, hGJ_37, rx_35, fx_35, ex_35⟩ := h_38
          have hF_39 := fq_tr hF_16 hFI_36 (by decide)
          have hG_40 := fq_tr hG_17 hGJ_37 (by decide)
          obtain ⟨s_42, hs_42⟩ : ∃ z, TPq I_36 J_37 a0 b_5 b_6 b_7 b_8 b_9 = z := ⟨_, rfl⟩
          obtain ⟨s_43, hs_43⟩ : ∃ z, KPq I_36 J_37 x b_11 = z := ⟨_, rfl⟩
          have c_41 : fBkLine (s_22) (s_23) (s_24) = (x_35, s_42, s_43) := by have q := fx_35; simp only [ebqa1, etqa0, eyqx, hs_22, hs_23, hs_24, hs_42, hs_43] at q; exact q.symm
          have hs_44 : TBq I_36 J_37 a1 b_1 b_2 b_3 = s_22 := (bq_fq wbqa1 hFI_36 hGJ_37 (by decide) (by decide)).trans hs_22
          have f_45 : s_43.bl = v_18 := (congrArg KP_.bl hs_43).symm.trans (fq_at hFI_36 hLx hkx (by decide) (by decide) q_19)
          have q_46 := (fq_at hFI_36 hLx hkx (by decide) (by decide) q_19)
          refine g_if_eq C (tgt := 52) dX0_readFrom_36 (by decide) (fun h_47 => ?_) (fun h_47 => ?_)
          · skip
            have r_48 := (⟨(rx_35).1, (eq_rg (h_47) rc_0).2⟩ : Rg 0 0 x_35)
            exact g_vret B K rfl ⟨hUI_36, hF_39, hG_40, (by (try simp only [f_27, h_28, (nlt h_28), hx_30, f_31, h_32, c_41, f_45, (eq_true h_47), if_true, if_false, bqM_pnm, bqM_par, bqM_dnm, bqM_persons, bqM_dishes, bqM_law, bqM_dogs, TB_.w_pnm, TB_.w_par, TB_.w_dnm, TB_.w_persons, TB_.w_dishes, TB_.w_law, TB_.w_dogs, yqM_bw, yqM_bl, KP_.w_bw, KP_.w_bl, tqM_by_, tqM_wd, tqM_tk, tqM_pl, tqM_vl, tqM_len, tqM_n, tqM_at_, tqM_token, tqM_place, tqM_value, tqM_fault, tqM_fat, TP_.w_by_, TP_.w_wd, TP_.w_tk, TP_.w_pl, TP_.w_vl, TP_.w_len, TP_.w_n, TP_.w_at_, TP_.w_token, TP_.w_place, TP_.w_value, TP_.w_fault, TP_.w_fat] at hQ_25); (try simp only [f_27, h_28, (nlt h_28), hx_30, f_31, h_32, c_41, f_45, (eq_true h_47), if_true, if_false, bqM_pnm, bqM_par, bqM_dnm, bqM_persons, bqM_dishes, bqM_law, bqM_dogs, TB_.w_pnm, TB_.w_par, TB_.w_dnm, TB_.w_persons, TB_.w_dishes, TB_.w_law, TB_.w_dogs, yqM_bw, yqM_bl, KP_.w_bw, KP_.w_bl, tqM_by_, tqM_wd, tqM_tk, tqM_pl, tqM_vl, tqM_len, tqM_n, tqM_at_, tqM_token, tqM_place, tqM_value, tqM_fault, tqM_fat, TP_.w_by_, TP_.w_wd, TP_.w_tk, TP_.w_pl, TP_.w_vl, TP_.w_len, TP_.w_n, TP_.w_at_, TP_.w_token, TP_.w_place, TP_.w_value, TP_.w_fault, TP_.w_fat] at u_26); simp only [ebqa1, hs_44, hs_4, etqa0, hs_42, hs_10, eyqx, hs_43, hs_12, hQ_25, f_27, u_26, h_28, (nlt h_28), hx_30, f_31, h_32, c_41, f_45, (eq_true h_47), if_true, if_false, bqM_pnm, bqM_par, bqM_dnm, bqM_persons, bqM_dishes, bqM_law, bqM_dogs, TB_.w_pnm, TB_.w_par, TB_.w_dnm, TB_.w_persons, TB_.w_dishes, TB_.w_law, TB_.w_dogs, yqM_bw, yqM_bl, KP_.w_bw, KP_.w_bl, tqM_by_, tqM_wd, tqM_tk, tqM_pl, tqM_vl, tqM_len, tqM_n, tqM_at_, tqM_token, tqM_place, tqM_value, tqM_fault, tqM_fat, TP_.w_by_, TP_.w_wd, TP_.w_tk, TP_.w_pl, TP_.w_vl, TP_.w_len, TP_.w_n, TP_.w_at_, TP_.w_token, TP_.w_place, TP_.w_value, TP_.w_fault, TP_.w_fat])⟩ dX0_readFrom_52
          · skip
            have n_49 : ¬ x_35 = 0 := h_47
            have r_50 := ne_lo (lo := 1) n_49 rx_35 rc_0 rfl (by decide)
            have r_51 := rg_i rv_18 (eq_rg q_46.symm ((ex_35.2) n_49)) (lo := 0) (hi := 39) (by decide) (by decide)
            refine g_aload_n C 0 dX0_readFrom_39 rfl rfl ?_
            refine g_dup C dX0_readFrom_40 rfl ?_
            refine g_getI C K hLx hkx f_0_24 (v := v_18) (fq_at hFI_36 hLx hkx (by decide) (by decide) q_19) dX0_readFrom_41 ?_
            refine g_iconst C (v := 1) dX0_readFrom_44 (by decide) ?_
            obtain ⟨x_52, hx_52, rx_52, tx_52⟩ := ex_add 1 40 r_51 rc_1 (by decide) (by decide) (by decide) (by decide)
            refine g_iadd C (v := x_52) dX0_readFrom_45 hx_52 ?_
            refine h_putI C K hLx hkx f_0_24 p_0_4 dX0_readFrom_46 (fun I_53 hI_53 => ?_)
            have hU_54 := iv_len1 W9 hUI_36 (uv_put hUI_36.1 hI_53 (ro_o hkx (by decide)) (lo := 0) (hi := 40) (rfl) (rg_w rx_52 (by decide) (by decide))) hLx hkx hI_53 (fq_at hFI_36 hLx hkx (by decide) (by decide) q_19) (r_51) (ti_k tx_52 rc_1) (ex_35.1 (rg_nz r_50 (by decide)))
            have hF_55 := fq_puto hF_39 hI_53 hkx (by decide) (by decide)
            have hs_56 : TBq I_53 J_37 a1 b_1 b_2 b_3 = s_22 := by rw [hI_53]; exact (bq_oI wbqa1 (ro_o hkx (by decide)) (by decide)).trans hs_44
            have hs_57 : TPq I_53 J_37 a0 b_5 b_6 b_7 b_8 b_9 = s_42 := by rw [hI_53]; exact (tq_oI wtqa0 (ro_o hkx (by decide)) (by decide)).trans hs_42
            have hs_58 : KPq I_53 J_37 x b_11 = (KP_.w_bl s_43 (x_52)) := by rw [hI_53]; exact ((yq_bl wyqx).trans (congrArg (fun z : KP_ => KP_.w_bl z (x_52)) hs_43)).trans rfl
            refine g_goto C (tgt := 12) dX0_readFrom_49 (by decide) ?_
            refine g_lo (is := [0, 1, 2]) (lo2 := [(0, .ref x), (1, .ref a0), (2, .ref a1)]) rfl ?_
            exact ih_12 I_53 J_37 hU_54 hF_55 hG_40 x_52 (rg_w rx_52 (by decide) (by decide)) (kp_s hI_53) (by (try simp only [f_27, h_28, (nlt h_28), hx_30, f_31, h_32, c_41, f_45, h_47, hx_52, if_true, if_false, bqM_pnm, bqM_par, bqM_dnm, bqM_persons, bqM_dishes, bqM_law, bqM_dogs, TB_.w_pnm, TB_.w_par, TB_.w_dnm, TB_.w_persons, TB_.w_dishes, TB_.w_law, TB_.w_dogs, yqM_bw, yqM_bl, KP_.w_bw, KP_.w_bl, tqM_by_, tqM_wd, tqM_tk, tqM_pl, tqM_vl, tqM_len, tqM_n, tqM_at_, tqM_token, tqM_place, tqM_value, tqM_fault, tqM_fat, TP_.w_by_, TP_.w_wd, TP_.w_tk, TP_.w_pl, TP_.w_vl, TP_.w_len, TP_.w_n, TP_.w_at_, TP_.w_token, TP_.w_place, TP_.w_value, TP_.w_fault, TP_.w_fat] at hQ_25); (try simp only [f_27, h_28, (nlt h_28), hx_30, f_31, h_32, c_41, f_45, h_47, hx_52, if_true, if_false, bqM_pnm, bqM_par, bqM_dnm, bqM_persons, bqM_dishes, bqM_law, bqM_dogs, TB_.w_pnm, TB_.w_par, TB_.w_dnm, TB_.w_persons, TB_.w_dishes, TB_.w_law, TB_.w_dogs, yqM_bw, yqM_bl, KP_.w_bw, KP_.w_bl, tqM_by_, tqM_wd, tqM_tk, tqM_pl, tqM_vl, tqM_len, tqM_n, tqM_at_, tqM_token, tqM_place, tqM_value, tqM_fault, tqM_fat, TP_.w_by_, TP_.w_wd, TP_.w_tk, TP_.w_pl, TP_.w_vl, TP_.w_len, TP_.w_n, TP_.w_at_, TP_.w_token, TP_.w_place, TP_.w_value, TP_.w_fault, TP_.w_fat] at u_26); simp only [ebqa1, hs_56, hs_4, etqa0, hs_57, hs_10, eyqx, hs_58, hs_12, hQ_25, f_27, u_26, h_28, (nlt h_28), hx_30, f_31, h_32, c_41, f_45, h_47, hx_52, if_true, if_false, bqM_pnm, bqM_par, bqM_dnm, bqM_persons, bqM_dishes, bqM_law, bqM_dogs, TB_.w_pnm, TB_.w_par, TB_.w_dnm, TB_.w_persons, TB_.w_dishes, TB_.w_law, TB_.w_dogs, yqM_bw, yqM_bl, KP_.w_bw, KP_.w_bl, tqM_by_, tqM_wd, tqM_tk, tqM_pl, tqM_vl, tqM_len, tqM_n, tqM_at_, tqM_token, tqM_place, tqM_value, tqM_fault, tqM_fat, TP_.w_by_, TP_.w_wd, TP_.w_tk, TP_.w_pl, TP_.w_vl, TP_.w_len, TP_.w_n, TP_.w_at_, TP_.w_token, TP_.w_place, TP_.w_value, TP_.w_fault, TP_.w_fat]) (ms_1 hm_21 (ti_k tx_52 rc_1) (by decide))
  refine g_aload_n C 1 dX0_readFrom_0 rfl rfl ?_
  refine g_sipush C (v := 400) dX0_readFrom_1 (by decide) ?_
  refine g_callVV C K (c_X10_begin W9 hLa0 hka0 400 (rg_w rc_400 (by decide) (by decide)) hU) hLa0 hka0 (by decide) rfl v_0_44 rfl ⟨rfl, rfl⟩ ⟨Nat.le_of_ble_eq_true rfl, Nat.le_of_ble_eq_true rfl⟩ (Nat.le_of_ble_eq_true rfl) ⟨Nat.le_of_ble_eq_true rfl, Nat.le_of_ble_eq_true rfl⟩ dX0_readFrom_4 rfl (st := []) (fun I_60 J_61 h_62 => ?_)
  obtain ⟨hUI_60, hFI_60, hGJ_61, fx_59⟩ := h_62
  have hF_63 := fq_tr hF hFI_60 (by decide)
  have hG_64 := fq_tr hG hGJ_61 (by decide)
  obtain ⟨s_66, hs_66⟩ : ∃ z, TPq I_60 J_61 a0 b_5 b_6 b_7 b_8 b_9 = z := ⟨_, rfl⟩
  have c_65 : fBegin (400) (s_10) = s_66 := by have q := fx_59; simp only [etqa0, hs_10, hs_66] at q; exact q.symm
  have hs_67 : TBq I_60 J_61 a1 b_1 b_2 b_3 = s_4 := (bq_fq wbqa1 hFI_60 hGJ_61 (by decide) (by decide)).trans hs_4
  have hs_68 : KPq I_60 J_61 x b_11 = s_12 := (yq_fq wyqx hFI_60 hGJ_61 (by decide) (by decide)).trans hs_12
  refine g_aload_n C 0 dX0_readFrom_7 rfl rfl ?_
  refine g_iconst C (v := 0) dX0_readFrom_8 (by decide) ?_
  refine h_putI C K hLx hkx f_0_24 p_0_4 dX0_readFrom_9 (fun I_69 hI_69 => ?_)
  have hU_70 := iv_len0 W9 hUI_60 (uv_put hUI_60.1 hI_69 (ro_o hkx (by decide)) (lo := 0) (hi := 40) (rfl) (rg_w rc_0 (by decide) (by decide))) hLx hkx hI_69
  have hF_71 := fq_puto hF_63 hI_69 hkx (by decide) (by decide)
  have hs_72 : TBq I_69 J_61 a1 b_1 b_2 b_3 = s_4 := by rw [hI_69]; exact (bq_oI wbqa1 (ro_o hkx (by decide)) (by decide)).trans hs_67
  have hs_73 : TPq I_69 J_61 a0 b_5 b_6 b_7 b_8 b_9 = s_66 := by rw [hI_69]; exact (tq_oI wtqa0 (ro_o hkx (by decide)) (by decide)).trans hs_66
  have hs_74 : KPq I_69 J_61 x b_11 = (KP_.w_bl s_12 (0)) := by rw [hI_69]; exact ((yq_bl wyqx).trans (congrArg (fun z : KP_ => KP_.w_bl z (0)) hs_68)).trans rfl
  refine g_lo (is := [0, 1, 2]) (lo2 := [(0, .ref x), (1, .ref a0), (2, .ref a1)]) rfl ?_
  exact l_12 41 I_69 J_61 hU_70 hF_71 hG_64 0 (rg_w rc_0 (by decide) (by decide)) (kp_s hI_69) (by simp only [fBook, ebqa1, hs_72, hs_4, etqa0, hs_73, hs_10, eyqx, hs_74, hs_12, c_65, if_true, if_false, bqM_pnm, bqM_par, bqM_dnm, bqM_persons, bqM_dishes, bqM_law, bqM_dogs, TB_.w_pnm, TB_.w_par, TB_.w_dnm, TB_.w_persons, TB_.w_dishes, TB_.w_law, TB_.w_dogs, yqM_bw, yqM_bl, KP_.w_bw, KP_.w_bl, tqM_by_, tqM_wd, tqM_tk, tqM_pl, tqM_vl, tqM_len, tqM_n, tqM_at_, tqM_token, tqM_place, tqM_value, tqM_fault, tqM_fat, TP_.w_by_, TP_.w_wd, TP_.w_tk, TP_.w_pl, TP_.w_vl, TP_.w_len, TP_.w_n, TP_.w_at_, TP_.w_token, TP_.w_place, TP_.w_value, TP_.w_fault, TP_.w_fat]) (ms_s (a := 0) (b := 40) (N := 41) (rg_w rc_0 (by decide) (by decide)) (by decide))
set_option maxRecDepth 100000 in
set_option maxHeartbeats 8000000 in
theorem c_X11_book {l : Launch} {D : va_G} {cy : Nat → ClassId} {L : List Nat} {κ ln : Nat → Nat} {R : Nat → Nat → Option Nat} {I : Nat → Nat → Int32} {J : Nat → Nat → Int64} {ow : Nat → Nat × Nat} (W9 : ∀ a ∈ L, Shp L κ ln R ow a) {x : Nat} (hLx : x ∈ L) (hkx : κ x = 11) (a0 : Int32) (hU : Iv L κ R ow I) : CtI l yX11_book cX11_book 2 (some .int) { frames := 6, cells := 0, slots := 0, locals := 170 } D cy L κ ln R I J [.ref x, .int a0] (fun r I2 J2 => Iv L κ R ow I2 ∧ Fq L κ ow [4, 5, 6, 7, 8, 9, 107, 108, 109, 110, 111, 112, 501, 502, 1005, 1006, 1007, 1008, 1009, 1011, 1012, 10000, 10100, 10200, 10300, 16100, 16200, 16300, 16400, 16500, 16600, 70200, 70300] I I2 ∧ Fq L κ ow [1010, 70400] J J2 ∧ Rg (-2147483648) 2147483647 r ∧ (I2 (rr_ R x 0) 11 = fBookF a0 (TBf R I J (rr_ R x 1)) (TPf R I J (rr_ R x 0)) (KPf R I J (rr_ R x 6)))) := by
  refine CtI.of (by decide +kernel) (Nat.le_of_ble_eq_true rfl) ?_
  intro p e s m below meth c B K
  have C := B.1
  have hF : Fq L κ ow [4, 5, 6, 7, 8, 9, 107, 108, 109, 110, 111, 112, 501, 502, 1005, 1006, 1007, 1008, 1009, 1011, 1012, 10000, 10100, 10200, 10300, 16100, 16200, 16300, 16400, 16500, 16600, 70200, 70300] I I := fq_rf
  have hG : Fq L κ ow [1010, 70400] J J := fq_rf
  obtain ⟨b_1, hb_1, hb_1L, hb_1k⟩ := shp_o (W9 x hLx) hkx 3 1 rfl (by decide)
  obtain ⟨b_2, hb_2, hb_2L, hb_2k⟩ := shp_o (W9 x hLx) hkx 4 5 rfl (by decide)
  obtain ⟨b_3, hb_3, hb_3L, hb_3k⟩ := shp_o (W9 x hLx) hkx 6 0 rfl (by decide)
  obtain ⟨b_4, hb_4, hb_4L, hb_4k⟩ := shp_o (W9 x hLx) hkx 2 1 rfl (by decide)
  obtain ⟨b_5, hb_5, hb_5L, hb_5k⟩ := shp_o (W9 x hLx) hkx 1 8 rfl (by decide)
  obtain ⟨b_6, hb_6, hb_6L, hb_6k⟩ := shp_o (W9 x hLx) hkx 0 10 rfl (by decide)
  obtain ⟨b_7, hb_7, hb_7L, hb_7k, hb_7n, hb_7o⟩ := shp_a (W9 b_5 hb_5L) hb_5k 0 15 7 rfl (by decide)
  obtain ⟨b_8, hb_8, hb_8L, hb_8k, hb_8n, hb_8o⟩ := shp_a (W9 b_5 hb_5L) hb_5k 2 14 7 rfl (by decide)
  obtain ⟨b_9, hb_9, hb_9L, hb_9k, hb_9n, hb_9o⟩ := shp_a (W9 b_5 hb_5L) hb_5k 3 15 6 rfl (by decide)
  have ebqx_1 : ∀ I J, TBf R I J (rr_ R x 1) = TBq I J b_5 b_7 b_8 b_9 := fun I J => by simp only [TBf, rr_, Option.getD_some, hb_7, hb_8, hb_9, hb_5]
  have dbqx_1 : ∀ I J, TBf R I J b_5 = TBq I J b_5 b_7 b_8 b_9 := fun I J => by simp only [TBf, rr_, Option.getD_some, hb_7, hb_8, hb_9, hb_5]
  have wbqx_1 : bqw_ L κ ow b_5 b_7 b_8 b_9 := ⟨⟨hb_5L, hb_7L, hb_8L, hb_9L⟩, ⟨(ro_o hb_5k (by decide)), (ro_a hb_7k (by decide) hb_7o hb_5k rfl), (ro_a hb_8k (by decide) hb_8o hb_5k rfl), (ro_a hb_9k (by decide) hb_9o hb_5k rfl)⟩⟩
  obtain ⟨s_10, hs_10⟩ : ∃ z, TBq I J b_5 b_7 b_8 b_9 = z := ⟨_, rfl⟩
  obtain ⟨b_11, hb_11, hb_11L, hb_11k, hb_11n, hb_11o⟩ := shp_a (W9 b_6 hb_6L) hb_6k 0 13 940 rfl (by decide)
  obtain ⟨b_12, hb_12, hb_12L, hb_12k, hb_12n, hb_12o⟩ := shp_a (W9 b_6 hb_6L) hb_6k 1 15 28 rfl (by decide)
  obtain ⟨b_13, hb_13, hb_13L, hb_13k, hb_13n, hb_13o⟩ := shp_a (W9 b_6 hb_6L) hb_6k 2 14 901 rfl (by decide)
  obtain ⟨b_14, hb_14, hb_14L, hb_14k, hb_14n, hb_14o⟩ := shp_a (W9 b_6 hb_6L) hb_6k 3 14 901 rfl (by decide)
  obtain ⟨b_15, hb_15, hb_15L, hb_15k, hb_15n, hb_15o⟩ := shp_a (W9 b_6 hb_6L) hb_6k 4 15 901 rfl (by decide)
  have etqx_0 : ∀ I J, TPf R I J (rr_ R x 0) = TPq I J b_6 b_11 b_12 b_13 b_14 b_15 := fun I J => by simp only [TPf, rr_, Option.getD_some, hb_11, hb_12, hb_13, hb_14, hb_15, hb_6]
  have dtqx_0 : ∀ I J, TPf R I J b_6 = TPq I J b_6 b_11 b_12 b_13 b_14 b_15 := fun I J => by simp only [TPf, rr_, Option.getD_some, hb_11, hb_12, hb_13, hb_14, hb_15, hb_6]
  have wtqx_0 : tqw_ L κ ow b_6 b_11 b_12 b_13 b_14 b_15 := ⟨⟨hb_6L, hb_11L, hb_12L, hb_13L, hb_14L, hb_15L⟩, ⟨(ro_o hb_6k (by decide)), (ro_a hb_11k (by decide) hb_11o hb_6k rfl), (ro_a hb_12k (by decide) hb_12o hb_6k rfl), (ro_a hb_13k (by decide) hb_13o hb_6k rfl), (ro_a hb_14k (by decide) hb_14o hb_6k rfl), (ro_a hb_15k (by decide) hb_15o hb_6k rfl)⟩⟩
  obtain ⟨s_16, hs_16⟩ : ∃ z, TPq I J b_6 b_11 b_12 b_13 b_14 b_15 = z := ⟨_, rfl⟩
  obtain ⟨b_17, hb_17, hb_17L, hb_17k, hb_17n, hb_17o⟩ := shp_a (W9 b_3 hb_3L) hb_3k 1 14 40 rfl (by decide)
  have eyqx_6 : ∀ I J, KPf R I J (rr_ R x 6) = KPq I J b_3 b_17 := fun I J => by simp only [KPf, rr_, Option.getD_some, hb_17, hb_3]
  have dyqx_6 : ∀ I J, KPf R I J b_3 = KPq I J b_3 b_17 := fun I J => by simp only [KPf, rr_, Option.getD_some, hb_17, hb_3]
  have wyqx_6 : yqw_ L κ ow b_3 b_17 := ⟨⟨hb_3L, hb_17L⟩, ⟨(ro_o hb_3k (by decide)), (ro_a hb_17k (by decide) hb_17o hb_3k rfl)⟩⟩
  obtain ⟨s_18, hs_18⟩ : ∃ z, KPq I J b_3 b_17 = z := ⟨_, rfl⟩
  refine g_lo (is := [0, 1]) (lo2 := [(0, .ref x), (1, .int a0)]) rfl ?_
  refine g_iload_n C 1 dX11_book_0 rfl rfl ?_
  refine g_if_eq C (tgt := 13) dX11_book_1 (by decide) (fun h_19 => ?_) (fun h_19 => ?_)
  · skip
    have r_20 := (⟨(eq_rg (h_19) rc_0).1, (eq_rg (h_19) rc_0).2⟩ : Rg 0 0 a0)
    refine g_aload_n C 0 dX11_book_13 rfl rfl ?_
    refine g_getR C K hLx hkx f_11_52 hb_3 dX11_book_14 ?_
    refine g_aload_n C 0 dX11_book_17 rfl rfl ?_
    refine g_getR C K hLx hkx f_11_10 hb_6 dX11_book_18 ?_
    refine g_aload_n C 0 dX11_book_21 rfl rfl ?_
    refine g_getR C K hLx hkx f_11_19 hb_5 dX11_book_22 ?_
    refine g_callVV C K (c_X0_readFrom W9 hb_3L hb_3k hb_6L hb_6k hb_5L hb_5k  hU) hb_3L hb_3k (by decide) rfl v_11_340 rfl ⟨rfl, rfl⟩ ⟨Nat.le_of_ble_eq_true rfl, Nat.le_of_ble_eq_true rfl⟩ (Nat.le_of_ble_eq_true rfl) ⟨Nat.le_of_ble_eq_true rfl, Nat.le_of_ble_eq_true rfl⟩ dX11_book_25 rfl (st := []) (fun I_22 J_23 h_24 => ?_)
    obtain ⟨hUI_22, hFI_22, hGJ_23, fx_21⟩ := h_24
    have hF_25 := fq_tr hF hFI_22 (by decide)
    have hG_26 := fq_tr hG hGJ_23 (by decide)
    obtain ⟨s_28, hs_28⟩ : ∃ z, TPq I_22 J_23 b_6 b_11 b_12 b_13 b_14 b_15 = z := ⟨_, rfl⟩
    obtain ⟨s_29, hs_29⟩ : ∃ z, KPq I_22 J_23 b_3 b_17 = z := ⟨_, rfl⟩
    have c_27 : fBook (s_10) (s_16) (s_18) = (s_28, s_29) := by have q := fx_21; simp only [ebqx_1, dbqx_1, etqx_0, dtqx_0, eyqx_6, dyqx_6, hs_10, hs_16, hs_18, hs_28, hs_29] at q; exact q.symm
    have hs_30 : TBq I_22 J_23 b_5 b_7 b_8 b_9 = s_10 := (bq_fq wbqx_1 hFI_22 hGJ_23 (by decide) (by decide)).trans hs_10
    refine g_aload_n C 0 dX11_book_28 rfl rfl ?_
    refine g_getR C K hLx hkx f_11_10 hb_6 dX11_book_29 ?_
    refine g_iconst C (v := 0) dX11_book_32 (by decide) ?_
    refine h_putI C K hb_6L hb_6k f_11_102 p_10_5 dX11_book_33 (fun I_31 hI_31 => ?_)
    have hU_32 := iv_put W9 hUI_22 hI_31 (ro_o hb_6k (by decide)) (lo := 0) (hi := 940) (rfl) (rg_w rc_0 (by decide) (by decide)) rfl
    have hF_33 := fq_puto hF_25 hI_31 hb_6k (by decide) (by decide)
    have hs_34 : TBq I_31 J_23 b_5 b_7 b_8 b_9 = s_10 := by rw [hI_31]; exact (bq_oI wbqx_1 (ro_o hb_6k (by decide)) (by decide)).trans hs_30
    have hs_35 : TPq I_31 J_23 b_6 b_11 b_12 b_13 b_14 b_15 = (TP_.w_len s_28 (0)) := by rw [hI_31]; exact ((tq_len wtqx_0).trans (congrArg (fun z : TP_ => TP_.w_len z (0)) hs_28)).trans rfl
    have hs_36 : KPq I_31 J_23 b_3 b_17 = s_29 := by rw [hI_31]; exact (yq_oI wyqx_6 (ro_o hb_6k (by decide)) (by decide)).trans hs_29
    refine g_aload_n C 0 dX11_book_36 rfl rfl ?_
    refine g_getR C K hLx hkx f_11_10 hb_6 dX11_book_37 ?_
    obtain ⟨x_37, hx_37, rx_37⟩ := ex_get (I := I_31) (a := b_6) (j := 11) (lo := (-2147483648)) (hi := 2147483647) hU_32.1 hb_6L (ro_o hb_6k (by decide)) rfl
    have f_38 : s_28.fault = x_37 := (congrArg TP_.fault hs_35).symm.trans hx_37
    refine g_getI C K hb_6L hb_6k f_11_113 (v := x_37) hx_37 dX11_book_40 ?_
    refine g_if_eq C (tgt := 57) dX11_book_43 (by decide) (fun h_39 => ?_) (fun h_39 => ?_)
    · skip
      have r_40 := (⟨(eq_rg (h_39) rc_0).1, (eq_rg (h_39) rc_0).2⟩ : Rg 0 0 x_37)
      refine g_aload_n C 0 dX11_book_57 rfl rfl ?_
      refine g_getR C K hLx hkx f_11_32 hb_1 dX11_book_58 ?_
      refine g_aload_n C 0 dX11_book_61 rfl rfl ?_
      refine g_getR C K hLx hkx f_11_28 hb_4 dX11_book_62 ?_
      refine g_callVV C K (c_X1_become W9 hb_1L hb_1k hb_4L hb_4k  hU_32) hb_1L hb_1k (by decide) rfl v_11_126 rfl ⟨rfl, rfl⟩ ⟨Nat.le_of_ble_eq_true rfl, Nat.le_of_ble_eq_true rfl⟩ (Nat.le_of_ble_eq_true rfl) ⟨Nat.le_of_ble_eq_true rfl, Nat.le_of_ble_eq_true rfl⟩ dX11_book_65 rfl (st := []) (fun I_42 J_43 h_44 => ?_)
      obtain ⟨hUI_42, hFI_42, hGJ_43⟩ := h_44
      have hF_45 := fq_tr hF_33 hFI_42 (by decide)
      have hG_46 := fq_tr hG_26 hGJ_43 (by decide)
      have hs_47 : TBq I_42 J_43 b_5 b_7 b_8 b_9 = s_10 := (bq_fq wbqx_1 hFI_42 hGJ_43 (by decide) (by decide)).trans hs_34
      have hs_48 : TPq I_42 J_43 b_6 b_11 b_12 b_13 b_14 b_15 = (TP_.w_len s_28 (0)) := (tq_fq wtqx_0 hFI_42 hGJ_43 (by decide) (by decide)).trans hs_35
      have hs_49 : KPq I_42 J_43 b_3 b_17 = s_29 := (yq_fq wyqx_6 hFI_42 hGJ_43 (by decide) (by decide)).trans hs_36
      refine g_aload_n C 0 dX11_book_68 rfl rfl ?_
      refine g_getR C K hLx hkx f_11_52 hb_3 dX11_book_69 ?_
      refine g_aload_n C 0 dX11_book_72 rfl rfl ?_
      refine g_getR C K hLx hkx f_11_32 hb_1 dX11_book_73 ?_
      refine g_callVV C K (c_X0_judgeBy W9 hb_3L hb_3k hb_1L hb_1k  hUI_42) hb_3L hb_3k (by decide) rfl v_11_343 rfl ⟨rfl, rfl⟩ ⟨Nat.le_of_ble_eq_true rfl, Nat.le_of_ble_eq_true rfl⟩ (Nat.le_of_ble_eq_true rfl) ⟨Nat.le_of_ble_eq_true rfl, Nat.le_of_ble_eq_true rfl⟩ dX11_book_76 rfl (st := []) (fun I_51 J_52 h_53 => ?_)
      obtain ⟨hUI_51, hFI_51, hGJ_52⟩ := h_53
      have hF_54 := fq_tr hF_45 hFI_51 (by decide)
      have hG_55 := fq_tr hG_46 hGJ_52 (by decide)
      have hs_56 : TBq I_51 J_52 b_5 b_7 b_8 b_9 = s_10 := (bq_fq wbqx_1 hFI_51 hGJ_52 (by decide) (by decide)).trans hs_47
      have hs_57 : TPq I_51 J_52 b_6 b_11 b_12 b_13 b_14 b_15 = (TP_.w_len s_28 (0)) := (tq_fq wtqx_0 hFI_51 hGJ_52 (by decide) (by decide)).trans hs_48
      have hs_58 : KPq I_51 J_52 b_3 b_17 = s_29 := (yq_fq wyqx_6 hFI_51 hGJ_52 (by decide) (by decide)).trans hs_49
      refine g_iload_n C 1 dX11_book_79 rfl rfl ?_
      refine g_iconst C (v := 1) dX11_book_80 (by decide) ?_
      refine g_icmp_ne C (tgt := 113) dX11_book_81 (by decide) (fun h_59 => ?_) (fun h_59 => ?_)
      · skip
        have n_60 : ¬ a0 = 1 := h_59
        refine g_aload_n C 0 dX11_book_113 rfl rfl ?_
        refine g_getR C K hLx hkx f_11_52 hb_3 dX11_book_114 ?_
        obtain ⟨x_61, hx_61, rx_61⟩ := ex_get (I := I_51) (a := b_3) (j := 6) (lo := (-2147483648)) (hi := 2147483647) hUI_51.1 hb_3L (ro_o hb_3k (by decide)) rfl
        refine g_getI C K hb_3L hb_3k f_11_346 (v := x_61) hx_61 dX11_book_117 ?_
        refine g_if_ne C (tgt := 127) dX11_book_120 (by decide) (fun h_62 => ?_) (fun h_62 => ?_)
        · skip
          have n_63 : ¬ x_61 = 0 := h_62
          refine g_aload_n C 0 dX11_book_127 rfl rfl ?_
          refine g_getR C K hLx hkx f_11_52 hb_3 dX11_book_128 ?_
          obtain ⟨x_64, hx_64, rx_64⟩ := ex_get (I := I_51) (a := b_3) (j := 7) (lo := 0) (hi := 40) hUI_51.1 hb_3L (ro_o hb_3k (by decide)) rfl
          refine g_getI C K hb_3L hb_3k f_11_349 (v := x_64) hx_64 dX11_book_131 ?_
          exact g_zret (ty := .int) (r := x_64) B K rfl (rfl) ⟨hUI_51, hF_54, hG_55, rg_all _, (by rw [rr_s hb_6, (fq_at hFI_51 hb_6L hb_6k (by decide) (by decide) (fq_at hFI_42 hb_6L hb_6k (by decide) (by decide) hx_37))]; simp only [fBookF, ebqx_1, dbqx_1, hs_56, hs_10, etqx_0, dtqx_0, hs_57, hs_16, eyqx_6, dyqx_6, hs_58, hs_18, (eq_true h_19), c_27, hx_37, f_38, (eq_true h_39), h_59, hx_61, h_62, hx_64, if_true, if_false, bqM_pnm, bqM_par, bqM_dnm, bqM_persons, bqM_dishes, bqM_law, bqM_dogs, TB_.w_pnm, TB_.w_par, TB_.w_dnm, TB_.w_persons, TB_.w_dishes, TB_.w_law, TB_.w_dogs, yqM_bw, yqM_bl, KP_.w_bw, KP_.w_bl, tqM_by_, tqM_wd, tqM_tk, tqM_pl, tqM_vl, tqM_len, tqM_n, tqM_at_, tqM_token, tqM_place, tqM_value, tqM_fault, tqM_fat, TP_.w_by_, TP_.w_wd, TP_.w_tk, TP_.w_pl, TP_.w_vl, TP_.w_len, TP_.w_n, TP_.w_at_, TP_.w_token, TP_.w_place, TP_.w_value, TP_.w_fault, TP_.w_fat])⟩ dX11_book_134
        · skip
          have r_65 := (⟨(eq_rg (h_62) rc_0).1, (eq_rg (h_62) rc_0).2⟩ : Rg 0 0 x_61)
          refine g_iconst C (v := (-1)) dX11_book_123 (by decide) ?_
          refine g_goto C (tgt := 134) dX11_book_124 (by decide) ?_
          exact g_zret (ty := .int) (r := (-1)) B K rfl (rfl) ⟨hUI_51, hF_54, hG_55, rg_all _, (by rw [rr_s hb_6, (fq_at hFI_51 hb_6L hb_6k (by decide) (by decide) (fq_at hFI_42 hb_6L hb_6k (by decide) (by decide) hx_37))]; simp only [fBookF, ebqx_1, dbqx_1, hs_56, hs_10, etqx_0, dtqx_0, hs_57, hs_16, eyqx_6, dyqx_6, hs_58, hs_18, (eq_true h_19), c_27, hx_37, f_38, (eq_true h_39), h_59, hx_61, (eq_true h_62), if_true, if_false, bqM_pnm, bqM_par, bqM_dnm, bqM_persons, bqM_dishes, bqM_law, bqM_dogs, TB_.w_pnm, TB_.w_par, TB_.w_dnm, TB_.w_persons, TB_.w_dishes, TB_.w_law, TB_.w_dogs, yqM_bw, yqM_bl, KP_.w_bw, KP_.w_bl, tqM_by_, tqM_wd, tqM_tk, tqM_pl, tqM_vl, tqM_len, tqM_n, tqM_at_, tqM_token, tqM_place, tqM_value, tqM_fault, tqM_fat, TP_.w_by_, TP_.w_wd, TP_.w_tk, TP_.w_pl, TP_.w_vl, TP_.w_len, TP_.w_n, TP_.w_at_, TP_.w_token, TP_.w_place, TP_.w_value, TP_.w_fault, TP_.w_fat])⟩ dX11_book_134
      · skip
        exact eq_no (h_59) r_20 rc_1 (by decide)
    · skip
      have n_66 : ¬ x_37 = 0 := h_39
      refine g_bipush C (v := (-2)) dX11_book_46 (by decide) ?_
      refine g_aload_n C 0 dX11_book_48 rfl rfl ?_
      refine g_getR C K hLx hkx f_11_10 hb_6 dX11_book_49 ?_
      obtain ⟨x_67, hx_67, rx_67⟩ := ex_get (I := I_31) (a := b_6) (j := 12) (lo := (-2147483648)) (hi := 2147483647) hU_32.1 hb_6L (ro_o hb_6k (by decide)) rfl
      have f_68 : s_28.fat = x_67 := (congrArg TP_.fat hs_35).symm.trans hx_67
      refine g_getI C K hb_6L hb_6k f_11_116 (v := x_67) hx_67 dX11_book_52 ?_
      obtain ⟨x_69, hx_69, rx_69⟩ := ex_any (z0 := (-2) - x_67)
      refine g_isub C (v := x_69) dX11_book_55 hx_69 ?_
      exact g_zret (ty := .int) (r := x_69) B K rfl (rfl) ⟨hU_32, hF_33, hG_26, rx_69, (by rw [rr_s hb_6, hx_37]; simp only [fBookF, ebqx_1, dbqx_1, hs_34, hs_10, etqx_0, dtqx_0, hs_35, hs_16, eyqx_6, dyqx_6, hs_36, hs_18, (eq_true h_19), c_27, hx_37, f_38, h_39, hx_67, f_68, hx_69, if_true, if_false, bqM_pnm, bqM_par, bqM_dnm, bqM_persons, bqM_dishes, bqM_law, bqM_dogs, TB_.w_pnm, TB_.w_par, TB_.w_dnm, TB_.w_persons, TB_.w_dishes, TB_.w_law, TB_.w_dogs, yqM_bw, yqM_bl, KP_.w_bw, KP_.w_bl, tqM_by_, tqM_wd, tqM_tk, tqM_pl, tqM_vl, tqM_len, tqM_n, tqM_at_, tqM_token, tqM_place, tqM_value, tqM_fault, tqM_fat, TP_.w_by_, TP_.w_wd, TP_.w_tk, TP_.w_pl, TP_.w_vl, TP_.w_len, TP_.w_n, TP_.w_at_, TP_.w_token, TP_.w_place, TP_.w_value, TP_.w_fault, TP_.w_fat])⟩ dX11_book_56
  · skip
    have n_70 : ¬ a0 = 0 := h_19
    refine g_iload_n C 1 dX11_book_4 rfl rfl ?_
    refine g_iconst C (v := 1) dX11_book_5 (by decide) ?_
    refine g_icmp_eq C (tgt := 13) dX11_book_6 (by decide) (fun h_71 => ?_) (fun h_71 => ?_)
    · skip
      have r_72 := (⟨(eq_rg (h_71) rc_1).1, (eq_rg (h_71) rc_1).2⟩ : Rg 1 1 a0)
      refine g_aload_n C 0 dX11_book_13 rfl rfl ?_
      refine g_getR C K hLx hkx f_11_52 hb_3 dX11_book_14 ?_
      refine g_aload_n C 0 dX11_book_17 rfl rfl ?_
      refine g_getR C K hLx hkx f_11_10 hb_6 dX11_book_18 ?_
      refine g_aload_n C 0 dX11_book_21 rfl rfl ?_
      refine g_getR C K hLx hkx f_11_19 hb_5 dX11_book_22 ?_
      refine g_callVV C K (c_X0_readFrom W9 hb_3L hb_3k hb_6L hb_6k hb_5L hb_5k  hU) hb_3L hb_3k (by decide) rfl v_11_340 rfl ⟨rfl, rfl⟩ ⟨Nat.le_of_ble_eq_true rfl, Nat.le_of_ble_eq_true rfl⟩ (Nat.le_of_ble_eq_true rfl) ⟨Nat.le_of_ble_eq_true rfl, Nat.le_of_ble_eq_true rfl⟩ dX11_book_25 rfl (st := []) (fun I_74 J_75 h_76 => ?_)
      obtain ⟨hUI_74, hFI_74, hGJ_75, fx_73⟩ := h_76
      have hF_77 := fq_tr hF hFI_74 (by decide)
      have hG_78 := fq_tr hG hGJ_75 (by decide)
      obtain ⟨s_80, hs_80⟩ : ∃ z, TPq I_74 J_75 b_6 b_11 b_12 b_13 b_14 b_15 = z := ⟨_, rfl⟩
      obtain ⟨s_81, hs_81⟩ : ∃ z, KPq I_74 J_75 b_3 b_17 = z := ⟨_, rfl⟩
      have c_79 : fBook (s_10) (s_16) (s_18) = (s_80, s_81) := by have q := fx_73; simp only [ebqx_1, dbqx_1, etqx_0, dtqx_0, eyqx_6, dyqx_6, hs_10, hs_16, hs_18, hs_80, hs_81] at q; exact q.symm
      have hs_82 : TBq I_74 J_75 b_5 b_7 b_8 b_9 = s_10 := (bq_fq wbqx_1 hFI_74 hGJ_75 (by decide) (by decide)).trans hs_10
      refine g_aload_n C 0 dX11_book_28 rfl rfl ?_
      refine g_getR C K hLx hkx f_11_10 hb_6 dX11_book_29 ?_
      refine g_iconst C (v := 0) dX11_book_32 (by decide) ?_
      refine h_putI C K hb_6L hb_6k f_11_102 p_10_5 dX11_book_33 (fun I_83 hI_83 => ?_)
      have hU_84 := iv_put W9 hUI_74 hI_83 (ro_o hb_6k (by decide)) (lo := 0) (hi := 940) (rfl) (rg_w rc_0 (by decide) (by decide)) rfl
      have hF_85 := fq_puto hF_77 hI_83 hb_6k (by decide) (by decide)
      have hs_86 : TBq I_83 J_75 b_5 b_7 b_8 b_9 = s_10 := by rw [hI_83]; exact (bq_oI wbqx_1 (ro_o hb_6k (by decide)) (by decide)).trans hs_82
      have hs_87 : TPq I_83 J_75 b_6 b_11 b_12 b_13 b_14 b_15 = (TP_.w_len s_80 (0)) := by rw [hI_83]; exact ((tq_len wtqx_0).trans (congrArg (fun z : TP_ => TP_.w_len z (0)) hs_80)).trans rfl
      have hs_88 : KPq I_83 J_75 b_3 b_17 = s_81 := by rw [hI_83]; exact (yq_oI wyqx_6 (ro_o hb_6k (by decide)) (by decide)).trans hs_81
      refine g_aload_n C 0 dX11_book_36 rfl rfl ?_
      refine g_getR C K hLx hkx f_11_10 hb_6 dX11_book_37 ?_
      obtain ⟨x_89, hx_89, rx_89⟩ := ex_get (I := I_83) (a := b_6) (j := 11) (lo := (-2147483648)) (hi := 2147483647) hU_84.1 hb_6L (ro_o hb_6k (by decide)) rfl
      have f_90 : s_80.fault = x_89 := (congrArg TP_.fault hs_87).symm.trans hx_89
      refine g_getI C K hb_6L hb_6k f_11_113 (v := x_89) hx_89 dX11_book_40 ?_
      refine g_if_eq C (tgt := 57) dX11_book_43 (by decide) (fun h_91 => ?_) (fun h_91 => ?_)
      · skip
        have r_92 := (⟨(eq_rg (h_91) rc_0).1, (eq_rg (h_91) rc_0).2⟩ : Rg 0 0 x_89)
        refine g_aload_n C 0 dX11_book_57 rfl rfl ?_
        refine g_getR C K hLx hkx f_11_32 hb_1 dX11_book_58 ?_
        refine g_aload_n C 0 dX11_book_61 rfl rfl ?_
        refine g_getR C K hLx hkx f_11_28 hb_4 dX11_book_62 ?_
        refine g_callVV C K (c_X1_become W9 hb_1L hb_1k hb_4L hb_4k  hU_84) hb_1L hb_1k (by decide) rfl v_11_126 rfl ⟨rfl, rfl⟩ ⟨Nat.le_of_ble_eq_true rfl, Nat.le_of_ble_eq_true rfl⟩ (Nat.le_of_ble_eq_true rfl) ⟨Nat.le_of_ble_eq_true rfl, Nat.le_of_ble_eq_true rfl⟩ dX11_book_65 rfl (st := []) (fun I_94 J_95 h_96 => ?_)
        obtain ⟨hUI_94, hFI_94, hGJ_95⟩ := h_96
        have hF_97 := fq_tr hF_85 hFI_94 (by decide)
        have hG_98 := fq_tr hG_78 hGJ_95 (by decide)
        have hs_99 : TBq I_94 J_95 b_5 b_7 b_8 b_9 = s_10 := (bq_fq wbqx_1 hFI_94 hGJ_95 (by decide) (by decide)).trans hs_86
        have hs_100 : TPq I_94 J_95 b_6 b_11 b_12 b_13 b_14 b_15 = (TP_.w_len s_80 (0)) := (tq_fq wtqx_0 hFI_94 hGJ_95 (by decide) (by decide)).trans hs_87
        have hs_101 : KPq I_94 J_95 b_3 b_17 = s_81 := (yq_fq wyqx_6 hFI_94 hGJ_95 (by decide) (by decide)).trans hs_88
        refine g_aload_n C 0 dX11_book_68 rfl rfl ?_
        refine g_getR C K hLx hkx f_11_52 hb_3 dX11_book_69 ?_
        refine g_aload_n C 0 dX11_book_72 rfl rfl ?_
        refine g_getR C K hLx hkx f_11_32 hb_1 dX11_book_73 ?_
        refine g_callVV C K (c_X0_judgeBy W9 hb_3L hb_3k hb_1L hb_1k  hUI_94) hb_3L hb_3k (by decide) rfl v_11_343 rfl ⟨rfl, rfl⟩ ⟨Nat.le_of_ble_eq_true rfl, Nat.le_of_ble_eq_true rfl⟩ (Nat.le_of_ble_eq_true rfl) ⟨Nat.le_of_ble_eq_true rfl, Nat.le_of_ble_eq_true rfl⟩ dX11_book_76 rfl (st := []) (fun I_103 J_104 h_105 => ?_)
        obtain ⟨hUI_103, hFI_103, hGJ_104⟩ := h_105
        have hF_106 := fq_tr hF_97 hFI_103 (by decide)
        have hG_107 := fq_tr hG_98 hGJ_104 (by decide)
        have hs_108 : TBq I_103 J_104 b_5 b_7 b_8 b_9 = s_10 := (bq_fq wbqx_1 hFI_103 hGJ_104 (by decide) (by decide)).trans hs_99
        have hs_109 : TPq I_103 J_104 b_6 b_11 b_12 b_13 b_14 b_15 = (TP_.w_len s_80 (0)) := (tq_fq wtqx_0 hFI_103 hGJ_104 (by decide) (by decide)).trans hs_100
        have hs_110 : KPq I_103 J_104 b_3 b_17 = s_81 := (yq_fq wyqx_6 hFI_103 hGJ_104 (by decide) (by decide)).trans hs_101
        refine g_iload_n C 1 dX11_book_79 rfl rfl ?_
        refine g_iconst C (v := 1) dX11_book_80 (by decide) ?_
        refine g_icmp_ne C (tgt := 113) dX11_book_81 (by decide) (fun h_111 => ?_) (fun h_111 => ?_)
        · skip
          exact ne_no (h_111) r_72 rc_1
        · skip
          refine g_aload_n C 0 dX11_book_84 rfl rfl ?_
          refine g_getR C K hLx hkx f_11_38 hb_2 dX11_book_85 ?_
          refine g_aload_n C 0 dX11_book_88 rfl rfl ?_
          refine g_getR C K hLx hkx f_11_28 hb_4 dX11_book_89 ?_
          refine g_callVV C K (c_X5_note W9 hb_2L hb_2k hb_4L hb_4k  hUI_103) hb_2L hb_2k (by decide) rfl v_11_225 rfl ⟨rfl, rfl⟩ ⟨Nat.le_of_ble_eq_true rfl, Nat.le_of_ble_eq_true rfl⟩ (Nat.le_of_ble_eq_true rfl) ⟨Nat.le_of_ble_eq_true rfl, Nat.le_of_ble_eq_true rfl⟩ dX11_book_92 rfl (st := []) (fun I_113 J_114 h_115 => ?_)
          obtain ⟨hUI_113, hFI_113, hGJ_114⟩ := h_115
          have hF_116 := fq_tr hF_106 hFI_113 (by decide)
          have hG_117 := fq_tr hG_107 hGJ_114 (by decide)
          have hs_118 : TBq I_113 J_114 b_5 b_7 b_8 b_9 = s_10 := (bq_fq wbqx_1 hFI_113 hGJ_114 (by decide) (by decide)).trans hs_108
          have hs_119 : TPq I_113 J_114 b_6 b_11 b_12 b_13 b_14 b_15 = (TP_.w_len s_80 (0)) := (tq_fq wtqx_0 hFI_113 hGJ_114 (by decide) (by decide)).trans hs_109
          have hs_120 : KPq I_113 J_114 b_3 b_17 = s_81 := (yq_fq wyqx_6 hFI_113 hGJ_114 (by decide) (by decide)).trans hs_110
          refine g_aload_n C 0 dX11_book_95 rfl rfl ?_
          refine g_getR C K hLx hkx f_11_38 hb_2 dX11_book_96 ?_
          refine g_callVV C K (c_X5_keepNoted W9 hb_2L hb_2k   hUI_113) hb_2L hb_2k (by decide) rfl v_11_260 rfl ⟨rfl, rfl⟩ ⟨Nat.le_of_ble_eq_true rfl, Nat.le_of_ble_eq_true rfl⟩ (Nat.le_of_ble_eq_true rfl) ⟨Nat.le_of_ble_eq_true rfl, Nat.le_of_ble_eq_true rfl⟩ dX11_book_99 rfl (st := []) (fun I_122 J_123 h_124 => ?_)
          obtain ⟨hUI_122, hFI_122, hGJ_123⟩ := h_124
          have hF_125 := fq_tr hF_116 hFI_122 (by decide)
          have hG_126 := fq_tr hG_117 hGJ_123 (by decide)
          have hs_127 : TBq I_122 J_123 b_5 b_7 b_8 b_9 = s_10 := (bq_fq wbqx_1 hFI_122 hGJ_123 (by decide) (by decide)).trans hs_118
          have hs_128 : TPq I_122 J_123 b_6 b_11 b_12 b_13 b_14 b_15 = (TP_.w_len s_80 (0)) := (tq_fq wtqx_0 hFI_122 hGJ_123 (by decide) (by decide)).trans hs_119
          have hs_129 : KPq I_122 J_123 b_3 b_17 = s_81 := (yq_fq wyqx_6 hFI_122 hGJ_123 (by decide) (by decide)).trans hs_120
          refine g_aload_n C 0 dX11_book_102 rfl rfl ?_
          refine g_getR C K hLx hkx f_11_28 hb_4 dX11_book_103 ?_
          refine g_aload_n C 0 dX11_book_106 rfl rfl ?_
          refine g_getR C K hLx hkx f_11_32 hb_1 dX11_book_107 ?_
          refine g_callVV C K (c_X1_become W9 hb_4L hb_4k hb_1L hb_1k  hUI_122) hb_4L hb_4k (by decide) rfl v_11_126 rfl ⟨rfl, rfl⟩ ⟨Nat.le_of_ble_eq_true rfl, Nat.le_of_ble_eq_true rfl⟩ (Nat.le_of_ble_eq_true rfl) ⟨Nat.le_of_ble_eq_true rfl, Nat.le_of_ble_eq_true rfl⟩ dX11_book_110 rfl (st := []) (fun I_131 J_132 h_133 => ?_)
          obtain ⟨hUI_131, hFI_131, hGJ_132⟩ := h_133
          have hF_134 := fq_tr hF_125 hFI_131 (by decide)
          have hG_135 := fq_tr hG_126 hGJ_132 (by decide)
          have hs_136 : TBq I_131 J_132 b_5 b_7 b_8 b_9 = s_10 := (bq_fq wbqx_1 hFI_131 hGJ_132 (by decide) (by decide)).trans hs_127
          have hs_137 : TPq I_131 J_132 b_6 b_11 b_12 b_13 b_14 b_15 = (TP_.w_len s_80 (0)) := (tq_fq wtqx_0 hFI_131 hGJ_132 (by decide) (by decide)).trans hs_128
          have hs_138 : KPq I_131 J_132 b_3 b_17 = s_81 := (yq_fq wyqx_6 hFI_131 hGJ_132 (by decide) (by decide)).trans hs_129
          refine g_aload_n C 0 dX11_book_113 rfl rfl ?_
          refine g_getR C K hLx hkx f_11_52 hb_3 dX11_book_114 ?_
          obtain ⟨x_139, hx_139, rx_139⟩ := ex_get (I := I_131) (a := b_3) (j := 6) (lo := (-2147483648)) (hi := 2147483647) hUI_131.1 hb_3L (ro_o hb_3k (by decide)) rfl
          refine g_getI C K hb_3L hb_3k f_11_346 (v := x_139) hx_139 dX11_book_117 ?_
          refine g_if_ne C (tgt := 127) dX11_book_120 (by decide) (fun h_140 => ?_) (fun h_140 => ?_)
          · skip
            have n_141 : ¬ x_139 = 0 := h_140
            refine g_aload_n C 0 dX11_book_127 rfl rfl ?_
            refine g_getR C K hLx hkx f_11_52 hb_3 dX11_book_128 ?_
            obtain ⟨x_142, hx_142, rx_142⟩ := ex_get (I := I_131) (a := b_3) (j := 7) (lo := 0) (hi := 40) hUI_131.1 hb_3L (ro_o hb_3k (by decide)) rfl
            refine g_getI C K hb_3L hb_3k f_11_349 (v := x_142) hx_142 dX11_book_131 ?_
            have q_143 := (fq_at hFI_131 hb_6L hb_6k (by decide) (by decide) (fq_at hFI_122 hb_6L hb_6k (by decide) (by decide) (fq_at hFI_113 hb_6L hb_6k (by decide) (by decide) (fq_at hFI_103 hb_6L hb_6k (by decide) (by decide) (fq_at hFI_94 hb_6L hb_6k (by decide) (by decide) hx_89)))))
            exact g_zret (ty := .int) (r := x_142) B K rfl (rfl) ⟨hUI_131, hF_134, hG_135, rg_all _, (by rw [rr_s hb_6, q_143]; simp only [fBookF, ebqx_1, dbqx_1, hs_136, hs_10, etqx_0, dtqx_0, hs_137, hs_16, eyqx_6, dyqx_6, hs_138, hs_18, h_19, (eq_true h_71), c_79, hx_89, f_90, (eq_true h_91), (eq_true h_111), hx_139, h_140, hx_142, if_true, if_false, bqM_pnm, bqM_par, bqM_dnm, bqM_persons, bqM_dishes, bqM_law, bqM_dogs, TB_.w_pnm, TB_.w_par, TB_.w_dnm, TB_.w_persons, TB_.w_dishes, TB_.w_law, TB_.w_dogs, yqM_bw, yqM_bl, KP_.w_bw, KP_.w_bl, tqM_by_, tqM_wd, tqM_tk, tqM_pl, tqM_vl, tqM_len, tqM_n, tqM_at_, tqM_token, tqM_place, tqM_value, tqM_fault, tqM_fat, TP_.w_by_, TP_.w_wd, TP_.w_tk, TP_.w_pl, TP_.w_vl, TP_.w_len, TP_.w_n, TP_.w_at_, TP_.w_token, TP_.w_place, TP_.w_value, TP_.w_fault, TP_.w_fat])⟩ dX11_book_134
          · skip
            have r_144 := (⟨(eq_rg (h_140) rc_0).1, (eq_rg (h_140) rc_0).2⟩ : Rg 0 0 x_139)
            refine g_iconst C (v := (-1)) dX11_book_123 (by decide) ?_
            refine g_goto C (tgt := 134) dX11_book_124 (by decide) ?_
            have q_145 := (fq_at hFI_131 hb_6L hb_6k (by decide) (by decide) (fq_at hFI_122 hb_6L hb_6k (by decide) (by decide) (fq_at hFI_113 hb_6L hb_6k (by decide) (by decide) (fq_at hFI_103 hb_6L hb_6k (by decide) (by decide) (fq_at hFI_94 hb_6L hb_6k (by decide) (by decide) hx_89)))))
            exact g_zret (ty := .int) (r := (-1)) B K rfl (rfl) ⟨hUI_131, hF_134, hG_135, rg_all _, (by rw [rr_s hb_6, q_145]; simp only [fBookF, ebqx_1, dbqx_1, hs_136, hs_10, etqx_0, dtqx_0, hs_137, hs_16, eyqx_6, dyqx_6, hs_138, hs_18, h_19, (eq_true h_71), c_79, hx_89, f_90, (eq_true h_91), (eq_true h_111), hx_139, (eq_true h_140), if_true, if_false, bqM_pnm, bqM_par, bqM_dnm, bqM_persons, bqM_dishes, bqM_law, bqM_dogs, TB_.w_pnm, TB_.w_par, TB_.w_dnm, TB_.w_persons, TB_.w_dishes, TB_.w_law, TB_.w_dogs, yqM_bw, yqM_bl, KP_.w_bw, KP_.w_bl, tqM_by_, tqM_wd, tqM_tk, tqM_pl, tqM_vl, tqM_len, tqM_n, tqM_at_, tqM_token, tqM_place, tqM_value, tqM_fault, tqM_fat, TP_.w_by_, TP_.w_wd, TP_.w_tk, TP_.w_pl, TP_.w_vl, TP_.w_len, TP_.w_n, TP_.w_at_, TP_.w_token, TP_.w_place, TP_.w_value, TP_.w_fault, TP_.w_fat])⟩ dX11_book_134
      · skip
        have n_146 : ¬ x_89 = 0 := h_91
        refine g_bipush C (v := (-2)) dX11_book_46 (by decide) ?_
        refine g_aload_n C 0 dX11_book_48 rfl rfl ?_
        refine g_getR C K hLx hkx f_11_10 hb_6 dX11_book_49 ?_
        obtain ⟨x_147, hx_147, rx_147⟩ := ex_get (I := I_83) (a := b_6) (j := 12) (lo := (-2147483648)) (hi := 2147483647) hU_84.1 hb_6L (ro_o hb_6k (by decide)) rfl
        have f_148 : s_80.fat = x_147 := (congrArg TP_.fat hs_87).symm.trans hx_147
        refine g_getI C K hb_6L hb_6k f_11_116 (v := x_147) hx_147 dX11_book_52 ?_
        obtain ⟨x_149, hx_149, rx_149⟩ := ex_any (z0 := (-2) - x_147)
        refine g_isub C (v := x_149) dX11_book_55 hx_149 ?_
        exact g_zret (ty := .int) (r := x_149) B K rfl (rfl) ⟨hU_84, hF_85, hG_78, rx_149, (by rw [rr_s hb_6, hx_89]; simp only [fBookF, ebqx_1, dbqx_1, hs_86, hs_10, etqx_0, dtqx_0, hs_87, hs_16, eyqx_6, dyqx_6, hs_88, hs_18, h_19, (eq_true h_71), c_79, hx_89, f_90, h_91, hx_147, f_148, hx_149, if_true, if_false, bqM_pnm, bqM_par, bqM_dnm, bqM_persons, bqM_dishes, bqM_law, bqM_dogs, TB_.w_pnm, TB_.w_par, TB_.w_dnm, TB_.w_persons, TB_.w_dishes, TB_.w_law, TB_.w_dogs, yqM_bw, yqM_bl, KP_.w_bw, KP_.w_bl, tqM_by_, tqM_wd, tqM_tk, tqM_pl, tqM_vl, tqM_len, tqM_n, tqM_at_, tqM_token, tqM_place, tqM_value, tqM_fault, tqM_fat, TP_.w_by_, TP_.w_wd, TP_.w_tk, TP_.w_pl, TP_.w_vl, TP_.w_len, TP_.w_n, TP_.w_at_, TP_.w_token, TP_.w_place, TP_.w_value, TP_.w_fault, TP_.w_fat])⟩ dX11_book_56
    · skip
      have n_150 : ¬ a0 = 1 := h_71
      refine g_sipush C (v := (-1000)) dX11_book_9 (by decide) ?_
      obtain ⟨x_151, hx_151, rx_151⟩ := ex_get (I := I) (a := b_6) (j := 11) (lo := (-2147483648)) (hi := 2147483647) hU.1 hb_6L (ro_o hb_6k (by decide)) rfl
      have f_152 : s_16.fault = x_151 := (congrArg TP_.fault hs_16).symm.trans hx_151
      exact g_zret (ty := .int) (r := (-1000)) B K rfl (rfl) ⟨hU, hF, hG, rg_all _, (by rw [rr_s hb_6, hx_151]; simp only [fBookF, ebqx_1, dbqx_1, hs_10, etqx_0, dtqx_0, hs_16, eyqx_6, dyqx_6, hs_18, h_19, h_71, hx_151, f_152, if_true, if_false, bqM_pnm, bqM_par, bqM_dnm, bqM_persons, bqM_dishes, bqM_law, bqM_dogs, TB_.w_pnm, TB_.w_par, TB_.w_dnm, TB_.w_persons, TB_.w_dishes, TB_.w_law, TB_.w_dogs, yqM_bw, yqM_bl, KP_.w_bw, KP_.w_bl, tqM_by_, tqM_wd, tqM_tk, tqM_pl, tqM_vl, tqM_len, tqM_n, tqM_at_, tqM_token, tqM_place, tqM_value, tqM_fault, tqM_fat, TP_.w_by_, TP_.w_wd, TP_.w_tk, TP_.w_pl, TP_.w_vl, TP_.w_len, TP_.w_n, TP_.w_at_, TP_.w_token, TP_.w_place, TP_.w_value, TP_.w_fault, TP_.w_fat])⟩ dX11_book_12
set_option maxRecDepth 100000 in
set_option maxHeartbeats 8000000 in
theorem c_X11_told {l : Launch} {D : va_G} {cy : Nat → ClassId} {L : List Nat} {κ ln : Nat → Nat} {R : Nat → Nat → Option Nat} {I : Nat → Nat → Int32} {J : Nat → Nat → Int64} {ow : Nat → Nat × Nat} (W9 : ∀ a ∈ L, Shp L κ ln R ow a) {x : Nat} (hLx : x ∈ L) (hkx : κ x = 11) (a0 : Int32) (hU : Iv L κ R ow I) : CtI l yX11_told cX11_told 2 (some .int) { frames := 0, cells := 0, slots := 0, locals := 0 } D cy L κ ln R I J [.ref x, .int a0] (fun r I2 J2 => I = I2 ∧ J = J2 ∧ Rg (-2147483648) 2147483647 r) := by
  refine CtI.of (by decide +kernel) (Nat.le_of_ble_eq_true rfl) ?_
  intro p e s m below meth c B K
  have C := B.1
  obtain ⟨b_1, hb_1, hb_1L, hb_1k⟩ := shp_o (W9 x hLx) hkx 6 0 rfl (by decide)
  refine g_lo (is := [0, 1]) (lo2 := [(0, .ref x), (1, .int a0)]) rfl ?_
  refine g_aload_n C 0 dX11_told_0 rfl rfl ?_
  refine g_getR C K hLx hkx f_11_52 hb_1 dX11_told_1 ?_
  obtain ⟨x_2, hx_2, rx_2⟩ := ex_get (I := I) (a := b_1) (j := 5) (lo := 0) (hi := 1) hU.1 hb_1L (ro_o hb_1k (by decide)) rfl
  refine g_getI C K hb_1L hb_1k f_11_352 (v := x_2) hx_2 dX11_told_4 ?_
  refine g_if_ne C (tgt := 12) dX11_told_7 (by decide) (fun h_3 => ?_) (fun h_3 => ?_)
  · skip
    have n_4 : ¬ x_2 = 0 := h_3
    have r_5 := ne_lo (lo := 1) n_4 rx_2 rc_0 rfl (by decide)
    refine g_iload_n C 1 dX11_told_12 rfl rfl ?_
    by_cases c_6 : a0.toInt = 0
    · skip
      have r_7 := rg_of (a := 0) (b := 0) 0 c_6 (by decide) (by decide)
      refine g_tableIn C (tgt := 44) dX11_told_13 (by omega) (by omega) (off := 31) (by rw [c_6]; rfl) (by decide) ?_
      refine g_aload_n C 0 dX11_told_44 rfl rfl ?_
      refine g_getR C K hLx hkx f_11_52 hb_1 dX11_told_45 ?_
      obtain ⟨x_8, hx_8, rx_8⟩ := ex_get (I := I) (a := b_1) (j := 6) (lo := (-2147483648)) (hi := 2147483647) hU.1 hb_1L (ro_o hb_1k (by decide)) rfl
      refine g_getI C K hb_1L hb_1k f_11_346 (v := x_8) hx_8 dX11_told_48 ?_
      exact g_zret (ty := .int) (r := x_8) B K rfl (rfl) ⟨rfl, rfl, rx_8⟩ dX11_told_51
    by_cases c_9 : a0.toInt = 1
    · skip
      have r_10 := rg_of (a := 1) (b := 1) 1 c_9 (by decide) (by decide)
      refine g_tableIn C (tgt := 52) dX11_told_13 (by omega) (by omega) (off := 39) (by rw [c_9]; rfl) (by decide) ?_
      refine g_aload_n C 0 dX11_told_52 rfl rfl ?_
      refine g_getR C K hLx hkx f_11_52 hb_1 dX11_told_53 ?_
      obtain ⟨x_11, hx_11, rx_11⟩ := ex_get (I := I) (a := b_1) (j := 7) (lo := 0) (hi := 40) hU.1 hb_1L (ro_o hb_1k (by decide)) rfl
      refine g_getI C K hb_1L hb_1k f_11_349 (v := x_11) hx_11 dX11_told_56 ?_
      exact g_zret (ty := .int) (r := x_11) B K rfl (rfl) ⟨rfl, rfl, rg_all _⟩ dX11_told_59
    by_cases c_12 : a0.toInt = 2
    · skip
      have r_13 := rg_of (a := 2) (b := 2) 2 c_12 (by decide) (by decide)
      refine g_tableIn C (tgt := 60) dX11_told_13 (by omega) (by omega) (off := 47) (by rw [c_12]; rfl) (by decide) ?_
      refine g_aload_n C 0 dX11_told_60 rfl rfl ?_
      refine g_getR C K hLx hkx f_11_52 hb_1 dX11_told_61 ?_
      obtain ⟨x_14, hx_14, rx_14⟩ := ex_get (I := I) (a := b_1) (j := 8) (lo := (-2147483648)) (hi := 2147483647) hU.1 hb_1L (ro_o hb_1k (by decide)) rfl
      refine g_getI C K hb_1L hb_1k f_11_356 (v := x_14) hx_14 dX11_told_64 ?_
      exact g_zret (ty := .int) (r := x_14) B K rfl (rfl) ⟨rfl, rfl, rx_14⟩ dX11_told_67
    by_cases c_15 : a0.toInt = 3
    · skip
      have r_16 := rg_of (a := 3) (b := 3) 3 c_15 (by decide) (by decide)
      refine g_tableIn C (tgt := 68) dX11_told_13 (by omega) (by omega) (off := 55) (by rw [c_15]; rfl) (by decide) ?_
      refine g_aload_n C 0 dX11_told_68 rfl rfl ?_
      refine g_getR C K hLx hkx f_11_52 hb_1 dX11_told_69 ?_
      obtain ⟨x_17, hx_17, rx_17⟩ := ex_get (I := I) (a := b_1) (j := 9) (lo := (-2147483648)) (hi := 2147483647) hU.1 hb_1L (ro_o hb_1k (by decide)) rfl
      refine g_getI C K hb_1L hb_1k f_11_359 (v := x_17) hx_17 dX11_told_72 ?_
      exact g_zret (ty := .int) (r := x_17) B K rfl (rfl) ⟨rfl, rfl, rx_17⟩ dX11_told_75
    obtain ⟨q_181, q_182⟩ := (rg_all a0)
    refine g_tableOut C (tgt := 76) dX11_told_13 (by omega) (by decide) ?_
    refine g_iconst C (v := (-1)) dX11_told_76 (by decide) ?_
    exact g_zret (ty := .int) (r := (-1)) B K rfl (rfl) ⟨rfl, rfl, rg_all _⟩ dX11_told_77
  · skip
    have r_19 := (⟨(rx_2).1, (eq_rg (h_3) rc_0).2⟩ : Rg 0 0 x_2)
    refine g_iconst C (v := (-1)) dX11_told_10 (by decide) ?_
    exact g_zret (ty := .int) (r := (-1)) B K rfl (rfl) ⟨rfl, rfl, rg_all _⟩ dX11_told_11
set_option maxRecDepth 100000 in
set_option maxHeartbeats 8000000 in
theorem c_X7_become {l : Launch} {D : va_G} {cy : Nat → ClassId} {L : List Nat} {κ ln : Nat → Nat} {R : Nat → Nat → Option Nat} {I : Nat → Nat → Int32} {J : Nat → Nat → Int64} {ow : Nat → Nat × Nat} (W9 : ∀ a ∈ L, Shp L κ ln R ow a) {x : Nat} (hLx : x ∈ L) (hkx : κ x = 7) {a0 : Nat} (hLa0 : a0 ∈ L) (hka0 : κ a0 = 7) (hU : Iv L κ R ow I) : CtV l yX7_become cX7_become 2 none { frames := 1, cells := 0, slots := 0, locals := 60 } D cy L κ ln R I J [.ref x, .ref a0] (fun I2 J2 => Iv L κ R ow I2 ∧ Fq L κ ow [704, 705, 52000, 52100, 52200] I I2 ∧ Fq L κ ow [] J J2 ∧ (I2 x 5 = I a0 5)) := by
  obtain ⟨x_1, hx_1, rx_1⟩ := ex_get (I := I) (a := a0) (j := 5) (lo := (-2147483648)) (hi := 2147483647) hU.1 hLa0 (ro_o hka0 (by decide)) rfl
  refine CtV.of (by decide +kernel) (Nat.le_of_ble_eq_true rfl) ?_
  intro p e s m below meth c B K
  have C := B.1
  have hF : Fq L κ ow [704, 705, 52000, 52100, 52200] I I := fq_rf
  have hG : Fq L κ ow [] J J := fq_rf
  obtain ⟨b_2, hb_2, hb_2L, hb_2k, hb_2n, hb_2o⟩ := shp_a (W9 a0 hLa0) hka0 0 14 40 rfl (by decide)
  obtain ⟨b_3, hb_3, hb_3L, hb_3k, hb_3n, hb_3o⟩ := shp_a (W9 a0 hLa0) hka0 1 14 40 rfl (by decide)
  obtain ⟨b_4, hb_4, hb_4L, hb_4k, hb_4n, hb_4o⟩ := shp_a (W9 x hLx) hkx 2 14 40 rfl (by decide)
  obtain ⟨b_5, hb_5, hb_5L, hb_5k, hb_5n, hb_5o⟩ := shp_a (W9 a0 hLa0) hka0 2 14 40 rfl (by decide)
  obtain ⟨b_6, hb_6, hb_6L, hb_6k, hb_6n, hb_6o⟩ := shp_a (W9 x hLx) hkx 1 14 40 rfl (by decide)
  obtain ⟨b_7, hb_7, hb_7L, hb_7k, hb_7n, hb_7o⟩ := shp_a (W9 x hLx) hkx 0 14 40 rfl (by decide)
  have hU0 := hU
  have hU := hU0.1
  refine g_lo (is := [0, 1]) (lo2 := [(0, .ref x), (1, .ref a0)]) rfl ?_
  refine g_aload_n C 1 dX7_become_0 rfl rfl ?_
  refine g_getR C K hLa0 hka0 f_7_11 hb_2 dX7_become_1 ?_
  refine g_iconst C (v := 0) dX7_become_4 (by decide) ?_
  refine g_aload_n C 0 dX7_become_5 rfl rfl ?_
  refine g_getR C K hLx hkx f_7_11 hb_7 dX7_become_6 ?_
  refine g_iconst C (v := 0) dX7_become_9 (by decide) ?_
  refine g_bipush C (v := 40) dX7_become_10 (by decide) ?_
  refine h_copyI C K hb_7L hb_7k hb_2L hb_2k ac_7_31 40 (by decide) (by decide) (by rw [hb_2n]; decide) (by rw [hb_7n]; decide) w_cp (Nat.le_of_ble_eq_true rfl) (Nat.le_of_ble_eq_true rfl) dX7_become_12 (fun I_8 hI_8 => ?_)
  have hU_9 := uv_cp hU hb_2L hI_8 (ro_a hb_7k (by decide) hb_7o hkx rfl) (ro_a hb_2k (by decide) hb_2o hka0 rfl)
  have hF_10 := fq_cp hF hI_8 (ro_a hb_7k (by decide) hb_7o hkx rfl) (by decide) (by decide)
  refine g_aload_n C 1 dX7_become_15 rfl rfl ?_
  refine g_getR C K hLa0 hka0 f_7_15 hb_3 dX7_become_16 ?_
  refine g_iconst C (v := 0) dX7_become_19 (by decide) ?_
  refine g_aload_n C 0 dX7_become_20 rfl rfl ?_
  refine g_getR C K hLx hkx f_7_15 hb_6 dX7_become_21 ?_
  refine g_iconst C (v := 0) dX7_become_24 (by decide) ?_
  refine g_bipush C (v := 40) dX7_become_25 (by decide) ?_
  refine h_copyI C K hb_6L hb_6k hb_3L hb_3k ac_7_31 40 (by decide) (by decide) (by rw [hb_3n]; decide) (by rw [hb_6n]; decide) w_cp (Nat.le_of_ble_eq_true rfl) (Nat.le_of_ble_eq_true rfl) dX7_become_27 (fun I_11 hI_11 => ?_)
  have hU_12 := uv_cp hU_9 hb_3L hI_11 (ro_a hb_6k (by decide) hb_6o hkx rfl) (ro_a hb_3k (by decide) hb_3o hka0 rfl)
  have hF_13 := fq_cp hF_10 hI_11 (ro_a hb_6k (by decide) hb_6o hkx rfl) (by decide) (by decide)
  refine g_aload_n C 1 dX7_become_30 rfl rfl ?_
  refine g_getR C K hLa0 hka0 f_7_18 hb_5 dX7_become_31 ?_
  refine g_iconst C (v := 0) dX7_become_34 (by decide) ?_
  refine g_aload_n C 0 dX7_become_35 rfl rfl ?_
  refine g_getR C K hLx hkx f_7_18 hb_4 dX7_become_36 ?_
  refine g_iconst C (v := 0) dX7_become_39 (by decide) ?_
  refine g_bipush C (v := 40) dX7_become_40 (by decide) ?_
  refine h_copyI C K hb_4L hb_4k hb_5L hb_5k ac_7_31 40 (by decide) (by decide) (by rw [hb_5n]; decide) (by rw [hb_4n]; decide) w_cp (Nat.le_of_ble_eq_true rfl) (Nat.le_of_ble_eq_true rfl) dX7_become_42 (fun I_14 hI_14 => ?_)
  have hU_15 := uv_cp hU_12 hb_5L hI_14 (ro_a hb_4k (by decide) hb_4o hkx rfl) (ro_a hb_5k (by decide) hb_5o hka0 rfl)
  have hF_16 := fq_cp hF_13 hI_14 (ro_a hb_4k (by decide) hb_4o hkx rfl) (by decide) (by decide)
  refine g_aload_n C 0 dX7_become_45 rfl rfl ?_
  refine g_aload_n C 1 dX7_become_46 rfl rfl ?_
  obtain ⟨x_17, hx_17, rx_17⟩ := ex_get (I := I_14) (a := a0) (j := 4) (lo := 0) (hi := 40) hU_15 hLa0 (ro_o hka0 (by decide)) rfl
  refine g_getI C K hLa0 hka0 f_7_24 (v := x_17) hx_17 dX7_become_47 ?_
  refine h_putI C K hLx hkx f_7_24 p_7_4 dX7_become_50 (fun I_18 hI_18 => ?_)
  have hU_19 := uv_put hU_15 hI_18 (ro_o hkx (by decide)) (lo := 0) (hi := 40) (rfl) (rx_17)
  have hF_20 := fq_puto hF_16 hI_18 hkx (by decide) (by decide)
  refine g_aload_n C 0 dX7_become_53 rfl rfl ?_
  refine g_aload_n C 1 dX7_become_54 rfl rfl ?_
  refine g_getI C K hLa0 hka0 f_7_28 (v := x_1) (kp_j hI_18 (by decide) (kp_c (κ := κ) hI_14 (by rw [hka0, hb_4k]; decide) (kp_c (κ := κ) hI_11 (by rw [hka0, hb_6k]; decide) (kp_c (κ := κ) hI_8 (by rw [hka0, hb_7k]; decide) hx_1)))) dX7_become_55 ?_
  refine h_putI C K hLx hkx f_7_28 p_7_5 dX7_become_58 (fun I_21 hI_21 => ?_)
  have hU_22 := uv_put hU_19 hI_21 (ro_o hkx (by decide)) (lo := (-2147483648)) (hi := 2147483647) (rfl) (rx_1)
  have hF_23 := fq_puto hF_20 hI_21 hkx (by decide) (by decide)
  exact g_vret B K rfl ⟨iv_bec W9 hU0 hU_22 hLx hkx hLa0 hka0 hb_7 hb_6 hb_4 hb_2 hb_3 hb_5 hI_8 hI_11 hI_14 hI_18 hI_21, hF_23, hG, (((kp_s hI_21)).trans (hx_1).symm)⟩ dX7_become_61
set_option maxRecDepth 100000 in
set_option maxHeartbeats 8000000 in
theorem c_X7_addStep {l : Launch} {D : va_G} {cy : Nat → ClassId} {L : List Nat} {κ ln : Nat → Nat} {R : Nat → Nat → Option Nat} {I : Nat → Nat → Int32} {J : Nat → Nat → Int64} {ow : Nat → Nat × Nat} (W9 : ∀ a ∈ L, Shp L κ ln R ow a) {x : Nat} (hLx : x ∈ L) (hkx : κ x = 7) (a0 : Int32) (a1 : Int32) (a2 : Int32) (ra1 : Rg 0 62 a1) (hU : Iv L κ R ow I) (h23 : a0 = 23 → Rg 0 5 a2) : CtI l yX7_addStep cX7_addStep 4 (some .boolean) { frames := 0, cells := 0, slots := 0, locals := 0 } D cy L κ ln R I J [.ref x, .int a0, .int a1, .int a2] (fun r I2 J2 => Iv L κ R ow I2 ∧ Fq L κ ow [704, 52000, 52100, 52200] I I2 ∧ Fq L κ ow [] J J2 ∧ Rg 0 1 r ∧ ((r, SPf R I2 J2 x) = fAddStep (SPf R I J x))) := by
  refine CtI.of (by decide +kernel) (Nat.le_of_ble_eq_true rfl) ?_
  intro p e s m below meth c B K
  have C := B.1
  have hF : Fq L κ ow [704, 52000, 52100, 52200] I I := fq_rf
  have hG : Fq L κ ow [] J J := fq_rf
  obtain ⟨b_1, hb_1, hb_1L, hb_1k, hb_1n, hb_1o⟩ := shp_a (W9 x hLx) hkx 2 14 40 rfl (by decide)
  obtain ⟨b_2, hb_2, hb_2L, hb_2k, hb_2n, hb_2o⟩ := shp_a (W9 x hLx) hkx 1 14 40 rfl (by decide)
  obtain ⟨b_3, hb_3, hb_3L, hb_3k, hb_3n, hb_3o⟩ := shp_a (W9 x hLx) hkx 0 14 40 rfl (by decide)
  have hU0 := hU
  have hU := hU0.1
  have esqx : ∀ I J, SPf R I J x = SPq I J x := fun I J => by simp only [SPf, rr_, Option.getD_some]
  have wsqx : sqw_ L κ ow x := ⟨hLx, (ro_o hkx (by decide))⟩
  obtain ⟨s_4, hs_4⟩ : ∃ z, SPq I J x = z := ⟨_, rfl⟩
  refine g_lo (is := [0, 1, 2, 3]) (lo2 := [(0, .ref x), (1, .int a0), (2, .int a1), (3, .int a2)]) rfl ?_
  refine g_aload_n C 0 dX7_addStep_0 rfl rfl ?_
  obtain ⟨x_5, hx_5, rx_5⟩ := ex_get (I := I) (a := x) (j := 4) (lo := 0) (hi := 40) hU hLx (ro_o hkx (by decide)) rfl
  have f_6 : s_4.sl = x_5 := (congrArg SP_.sl hs_4).symm.trans hx_5
  refine g_getI C K hLx hkx f_7_24 (v := x_5) hx_5 dX7_addStep_1 ?_
  refine g_bipush C (v := 40) dX7_addStep_4 (by decide) ?_
  refine g_icmp_lt C (tgt := 11) dX7_addStep_6 (by decide) (fun h_7 => ?_) (fun h_7 => ?_)
  · skip
    have r_8 := lt_l (hi := 39) (h_7) rx_5 rc_40 (by decide)
    refine g_aload_n C 0 dX7_addStep_11 rfl rfl ?_
    refine g_getR C K hLx hkx f_7_11 hb_3 dX7_addStep_12 ?_
    refine g_aload_n C 0 dX7_addStep_15 rfl rfl ?_
    refine g_getI C K hLx hkx f_7_24 (v := x_5) hx_5 dX7_addStep_16 ?_
    refine g_iload_n C 1 dX7_addStep_19 rfl rfl ?_
    refine h_iast C K hb_3L hb_3k (x_5.toNatClampNeg) (rfl) (ix_0 r_8 (by decide)) (ix_lt r_8 (by decide) hb_3n (by decide)) dX7_addStep_20 (fun I_9 hI_9 => ?_)
    have hU_10 := uv_put hU hI_9 (ro_a hb_3k (by decide) hb_3o hkx rfl) (lo := (-2147483648)) (hi := 2147483647) (rfl) ((rg_all a0))
    have hF_11 := fq_puta hF hI_9 (ro_a hb_3k (by decide) hb_3o hkx rfl) (by decide) (by decide)
    have hs_12 : SPq I_9 J x = s_4 := by rw [hI_9]; exact (sq_oI wsqx (ro_a hb_3k (by decide) hb_3o hkx rfl) (by decide)).trans hs_4
    refine g_aload_n C 0 dX7_addStep_21 rfl rfl ?_
    refine g_getR C K hLx hkx f_7_15 hb_2 dX7_addStep_22 ?_
    refine g_aload_n C 0 dX7_addStep_25 rfl rfl ?_
    refine g_getI C K hLx hkx f_7_24 (v := x_5) (kp_k (κ := κ) hI_9 (by rw [hkx, hb_3k]; decide) hx_5) dX7_addStep_26 ?_
    refine g_iload_n C 2 dX7_addStep_29 rfl rfl ?_
    refine h_iast C K hb_2L hb_2k (x_5.toNatClampNeg) (rfl) (ix_0 r_8 (by decide)) (ix_lt r_8 (by decide) hb_2n (by decide)) dX7_addStep_30 (fun I_13 hI_13 => ?_)
    have hU_14 := uv_put hU_10 hI_13 (ro_a hb_2k (by decide) hb_2o hkx rfl) (lo := (-2147483648)) (hi := 2147483647) (rfl) (rg_all _)
    have hF_15 := fq_puta hF_11 hI_13 (ro_a hb_2k (by decide) hb_2o hkx rfl) (by decide) (by decide)
    have hs_16 : SPq I_13 J x = s_4 := by rw [hI_13]; exact (sq_oI wsqx (ro_a hb_2k (by decide) hb_2o hkx rfl) (by decide)).trans hs_12
    refine g_aload_n C 0 dX7_addStep_31 rfl rfl ?_
    refine g_getR C K hLx hkx f_7_18 hb_1 dX7_addStep_32 ?_
    refine g_aload_n C 0 dX7_addStep_35 rfl rfl ?_
    refine g_getI C K hLx hkx f_7_24 (v := x_5) (kp_k (κ := κ) hI_13 (by rw [hkx, hb_2k]; decide) (kp_k (κ := κ) hI_9 (by rw [hkx, hb_3k]; decide) hx_5)) dX7_addStep_36 ?_
    refine g_iload_n C 3 dX7_addStep_39 rfl rfl ?_
    refine h_iast C K hb_1L hb_1k (x_5.toNatClampNeg) (rfl) (ix_0 r_8 (by decide)) (ix_lt r_8 (by decide) hb_1n (by decide)) dX7_addStep_40 (fun I_17 hI_17 => ?_)
    have hU_18 := uv_put hU_14 hI_17 (ro_a hb_1k (by decide) hb_1o hkx rfl) (lo := (-2147483648)) (hi := 2147483647) (rfl) ((rg_all a2))
    have hF_19 := fq_puta hF_15 hI_17 (ro_a hb_1k (by decide) hb_1o hkx rfl) (by decide) (by decide)
    have hs_20 : SPq I_17 J x = s_4 := by rw [hI_17]; exact (sq_oI wsqx (ro_a hb_1k (by decide) hb_1o hkx rfl) (by decide)).trans hs_16
    refine g_aload_n C 0 dX7_addStep_41 rfl rfl ?_
    refine g_dup C dX7_addStep_42 rfl ?_
    refine g_getI C K hLx hkx f_7_24 (v := x_5) (kp_k (κ := κ) hI_17 (by rw [hkx, hb_1k]; decide) (kp_k (κ := κ) hI_13 (by rw [hkx, hb_2k]; decide) (kp_k (κ := κ) hI_9 (by rw [hkx, hb_3k]; decide) hx_5))) dX7_addStep_43 ?_
    refine g_iconst C (v := 1) dX7_addStep_46 (by decide) ?_
    obtain ⟨x_21, hx_21, rx_21, tx_21⟩ := ex_add 1 40 r_8 rc_1 (by decide) (by decide) (by decide) (by decide)
    refine g_iadd C (v := x_21) dX7_addStep_47 hx_21 ?_
    refine h_putI C K hLx hkx f_7_24 p_7_4 dX7_addStep_48 (fun I_22 hI_22 => ?_)
    have hU_23 := uv_put hU_18 hI_22 (ro_o hkx (by decide)) (lo := 0) (hi := 40) (rfl) (rg_w rx_21 (by decide) (by decide))
    have hF_24 := fq_puto hF_19 hI_22 hkx (by decide) (by decide)
    have hs_25 : SPq I_22 J x = (SP_.w_sl s_4 (x_21)) := by rw [hI_22]; exact ((sq_sl wsqx).trans (congrArg (fun z : SP_ => SP_.w_sl z (x_21)) hs_20)).trans rfl
    refine g_iconst C (v := 1) dX7_addStep_51 (by decide) ?_
    exact g_zret (ty := .boolean) (r := 1) B K rfl (rfl) ⟨iv_add (m := 0) W9 hU0 hU_23 hLx hkx hb_3 hb_2 hb_1 hI_9 hI_13 hI_17 hI_22 h23, hF_24, hG, rg_w rc_1 (by decide) (by decide), (by simp only [fAddStep, esqx, hs_25, hs_4, hx_5, f_6, h_7, hx_21, if_true, if_false, sqM_sl, sqM_so, SP_.w_sl, SP_.w_so])⟩ dX7_addStep_52
  · skip
    have r_26 := le_r (nlt h_7) rc_40 rx_5
    refine g_iconst C (v := 0) dX7_addStep_9 (by decide) ?_
    exact g_zret (ty := .boolean) (r := 0) B K rfl (rfl) ⟨hU0, hF, hG, rg_w rc_0 (by decide) (by decide), (by simp only [fAddStep, esqx, hs_4, hx_5, f_6, h_7, (nlt h_7), if_true, if_false, sqM_sl, sqM_so, SP_.w_sl, SP_.w_so])⟩ dX7_addStep_10
set_option maxRecDepth 100000 in
set_option maxHeartbeats 8000000 in
theorem c_X7_beginsOne {l : Launch} {D : va_G} {cy : Nat → ClassId} {L : List Nat} {κ ln : Nat → Nat} {R : Nat → Nat → Option Nat} {I : Nat → Nat → Int32} {J : Nat → Nat → Int64} {ow : Nat → Nat × Nat} (W9 : ∀ a ∈ L, Shp L κ ln R ow a) (a0 : Int32) (hU : Iv L κ R ow I) : CtI l yX7_beginsOne cX7_beginsOne 1 (some .boolean) { frames := 0, cells := 0, slots := 0, locals := 0 } D cy L κ ln R I J [.int a0] (fun r I2 J2 => I = I2 ∧ J = J2 ∧ Rg 0 1 r ∧ (r = fBegOne a0)) := by
  refine CtI.of (by decide +kernel) (Nat.le_of_ble_eq_true rfl) ?_
  intro p e s m below meth c B K
  have C := B.1
  refine g_lo (is := [0]) (lo2 := [(0, .int a0)]) rfl ?_
  refine g_iload_n C 0 dX7_beginsOne_0 rfl rfl ?_
  refine g_bipush C (v := 40) dX7_beginsOne_1 (by decide) ?_
  refine g_icmp_eq C (tgt := 23) dX7_beginsOne_3 (by decide) (fun h_1 => ?_) (fun h_1 => ?_)
  · skip
    have r_2 := (⟨(eq_rg (h_1) rc_40).1, (eq_rg (h_1) rc_40).2⟩ : Rg 40 40 a0)
    refine g_iconst C (v := 1) dX7_beginsOne_23 (by decide) ?_
    refine g_goto C (tgt := 28) dX7_beginsOne_24 (by decide) ?_
    exact g_zret (ty := .boolean) (r := 1) B K rfl (rfl) ⟨rfl, rfl, rg_w rc_1 (by decide) (by decide), (by simp only [fBegOne, (eq_true h_1), if_true, if_false])⟩ dX7_beginsOne_28
  · skip
    have n_3 : ¬ a0 = 40 := h_1
    refine g_iload_n C 0 dX7_beginsOne_6 rfl rfl ?_
    refine g_iconst C (v := 5) dX7_beginsOne_7 (by decide) ?_
    refine g_icmp_eq C (tgt := 23) dX7_beginsOne_8 (by decide) (fun h_4 => ?_) (fun h_4 => ?_)
    · skip
      have r_5 := (⟨(eq_rg (h_4) rc_5).1, (eq_rg (h_4) rc_5).2⟩ : Rg 5 5 a0)
      refine g_iconst C (v := 1) dX7_beginsOne_23 (by decide) ?_
      refine g_goto C (tgt := 28) dX7_beginsOne_24 (by decide) ?_
      exact g_zret (ty := .boolean) (r := 1) B K rfl (rfl) ⟨rfl, rfl, rg_w rc_1 (by decide) (by decide), (by simp only [fBegOne, h_1, (eq_true h_4), if_true, if_false])⟩ dX7_beginsOne_28
    · skip
      have n_6 : ¬ a0 = 5 := h_4
      refine g_iload_n C 0 dX7_beginsOne_11 rfl rfl ?_
      refine g_bipush C (v := 19) dX7_beginsOne_12 (by decide) ?_
      refine g_icmp_lt C (tgt := 27) dX7_beginsOne_14 (by decide) (fun h_7 => ?_) (fun h_7 => ?_)
      · skip
        have r_8 := lt_l (hi := 18) (h_7) (rg_all a0) rc_19 (by decide)
        refine g_iconst C (v := 0) dX7_beginsOne_27 (by decide) ?_
        exact g_zret (ty := .boolean) (r := 0) B K rfl (rfl) ⟨rfl, rfl, rg_w rc_0 (by decide) (by decide), (by simp only [fBegOne, h_1, h_4, h_7, if_true, if_false])⟩ dX7_beginsOne_28
      · skip
        have r_9 := le_r (nlt h_7) rc_19 (rg_all a0)
        refine g_iload_n C 0 dX7_beginsOne_17 rfl rfl ?_
        refine g_bipush C (v := 27) dX7_beginsOne_18 (by decide) ?_
        refine g_icmp_gt C (tgt := 27) dX7_beginsOne_20 (by decide) (fun h_10 => ?_) (fun h_10 => ?_)
        · skip
          have r_11 := lt_r (lo := 28) (h_10) rc_27 r_9 (by decide)
          refine g_iconst C (v := 0) dX7_beginsOne_27 (by decide) ?_
          exact g_zret (ty := .boolean) (r := 0) B K rfl (rfl) ⟨rfl, rfl, rg_w rc_0 (by decide) (by decide), (by simp only [fBegOne, h_1, h_4, h_7, (nlt h_7), h_10, if_true, if_false])⟩ dX7_beginsOne_28
        · skip
          have r_12 := le_l (nlt h_10) r_9 rc_27
          refine g_iconst C (v := 1) dX7_beginsOne_23 (by decide) ?_
          refine g_goto C (tgt := 28) dX7_beginsOne_24 (by decide) ?_
          exact g_zret (ty := .boolean) (r := 1) B K rfl (rfl) ⟨rfl, rfl, rg_w rc_1 (by decide) (by decide), (by simp only [fBegOne, h_1, h_4, h_7, (nlt h_7), h_10, (nlt h_10), if_true, if_false])⟩ dX7_beginsOne_28
set_option maxRecDepth 100000 in
set_option maxHeartbeats 8000000 in
theorem c_X7_readOne_9 {l : Launch} {D : va_G} {cy : Nat → ClassId} {L : List Nat} {κ ln : Nat → Nat} {R : Nat → Nat → Option Nat} {I : Nat → Nat → Int32} {J : Nat → Nat → Int64} {ow : Nat → Nat × Nat} (W9 : ∀ a ∈ L, Shp L κ ln R ow a) {x : Nat} (hLx : x ∈ L) (hkx : κ x = 7) {a0 : Nat} (hLa0 : a0 ∈ L) (hka0 : κ a0 = 10) {a1 : Nat} (hLa1 : a1 ∈ L) (hka1 : κ a1 = 8) (a2 : Int32) (ra2 : Rg 9 9 a2) (hU : Iv L κ R ow I) : CtI l yX7_readOne cX7_readOne 5 (some .boolean) { frames := 1, cells := 0, slots := 0, locals := 21 } D cy L κ ln R I J [.ref x, .ref a0, .ref a1, .int a2] (fun r I2 J2 => Iv L κ R ow I2 ∧ Fq L κ ow [1011, 1012] I I2 ∧ Fq L κ ow [] J J2 ∧ Rg 0 0 r ∧ ((r, TPf R I2 J2 a0, SPf R I2 J2 x) = fOne 0 (TBf R I J a1) (TPf R I J a0) (SPf R I J x))) := by
  refine CtI.of (by decide +kernel) (Nat.le_of_ble_eq_true rfl) ?_
  intro p e s m below meth c B K
  have C := B.1
  have hF : Fq L κ ow [1011, 1012] I I := fq_rf
  have hG : Fq L κ ow [] J J := fq_rf
  obtain ⟨b_1, hb_1, hb_1L, hb_1k, hb_1n, hb_1o⟩ := shp_a (W9 a1 hLa1) hka1 0 15 7 rfl (by decide)
  obtain ⟨b_2, hb_2, hb_2L, hb_2k, hb_2n, hb_2o⟩ := shp_a (W9 a1 hLa1) hka1 2 14 7 rfl (by decide)
  obtain ⟨b_3, hb_3, hb_3L, hb_3k, hb_3n, hb_3o⟩ := shp_a (W9 a1 hLa1) hka1 3 15 6 rfl (by decide)
  have ebqa1 : ∀ I J, TBf R I J a1 = TBq I J a1 b_1 b_2 b_3 := fun I J => by simp only [TBf, rr_, Option.getD_some, hb_1, hb_2, hb_3]
  have wbqa1 : bqw_ L κ ow a1 b_1 b_2 b_3 := ⟨⟨hLa1, hb_1L, hb_2L, hb_3L⟩, ⟨(ro_o hka1 (by decide)), (ro_a hb_1k (by decide) hb_1o hka1 rfl), (ro_a hb_2k (by decide) hb_2o hka1 rfl), (ro_a hb_3k (by decide) hb_3o hka1 rfl)⟩⟩
  obtain ⟨s_4, hs_4⟩ : ∃ z, TBq I J a1 b_1 b_2 b_3 = z := ⟨_, rfl⟩
  obtain ⟨b_5, hb_5, hb_5L, hb_5k, hb_5n, hb_5o⟩ := shp_a (W9 a0 hLa0) hka0 0 13 940 rfl (by decide)
  obtain ⟨b_6, hb_6, hb_6L, hb_6k, hb_6n, hb_6o⟩ := shp_a (W9 a0 hLa0) hka0 1 15 28 rfl (by decide)
  obtain ⟨b_7, hb_7, hb_7L, hb_7k, hb_7n, hb_7o⟩ := shp_a (W9 a0 hLa0) hka0 2 14 901 rfl (by decide)
  obtain ⟨b_8, hb_8, hb_8L, hb_8k, hb_8n, hb_8o⟩ := shp_a (W9 a0 hLa0) hka0 3 14 901 rfl (by decide)
  obtain ⟨b_9, hb_9, hb_9L, hb_9k, hb_9n, hb_9o⟩ := shp_a (W9 a0 hLa0) hka0 4 15 901 rfl (by decide)
  have etqa0 : ∀ I J, TPf R I J a0 = TPq I J a0 b_5 b_6 b_7 b_8 b_9 := fun I J => by simp only [TPf, rr_, Option.getD_some, hb_5, hb_6, hb_7, hb_8, hb_9]
  have wtqa0 : tqw_ L κ ow a0 b_5 b_6 b_7 b_8 b_9 := ⟨⟨hLa0, hb_5L, hb_6L, hb_7L, hb_8L, hb_9L⟩, ⟨(ro_o hka0 (by decide)), (ro_a hb_5k (by decide) hb_5o hka0 rfl), (ro_a hb_6k (by decide) hb_6o hka0 rfl), (ro_a hb_7k (by decide) hb_7o hka0 rfl), (ro_a hb_8k (by decide) hb_8o hka0 rfl), (ro_a hb_9k (by decide) hb_9o hka0 rfl)⟩⟩
  obtain ⟨s_10, hs_10⟩ : ∃ z, TPq I J a0 b_5 b_6 b_7 b_8 b_9 = z := ⟨_, rfl⟩
  have esqx : ∀ I J, SPf R I J x = SPq I J x := fun I J => by simp only [SPf, rr_, Option.getD_some]
  have wsqx : sqw_ L κ ow x := ⟨hLx, (ro_o hkx (by decide))⟩
  obtain ⟨s_11, hs_11⟩ : ∃ z, SPq I J x = z := ⟨_, rfl⟩
  refine g_lo (is := [0, 1, 2, 3]) (lo2 := [(0, .ref x), (1, .ref a0), (2, .ref a1), (3, .int a2)]) rfl ?_
  refine g_aload_n C 1 dX7_readOne_0 rfl rfl ?_
  obtain ⟨x_12, hx_12, rx_12⟩ := ex_get (I := I) (a := a0) (j := 8) (lo := (-2147483648)) (hi := 2147483647) hU.1 hLa0 (ro_o hka0 (by decide)) rfl
  have f_13 : s_10.token = x_12 := (congrArg TP_.token hs_10).symm.trans hx_12
  refine g_getI C K hLa0 hka0 f_7_57 (v := x_12) hx_12 dX7_readOne_1 ?_
  refine g_istore C dX7_readOne_4 (by decide) (lo2 := [(4, .int x_12), (0, .ref x), (1, .ref a0), (2, .ref a1), (3, .int a2)]) rfl ?_
  refine g_iload C 0 dX7_readOne_6 rfl ?_
  refine g_callSI C K (c_X7_beginsOne W9 x_12  hU) s_7_70 rfl ⟨rfl, rfl⟩ ⟨Nat.le_of_ble_eq_true rfl, Nat.le_of_ble_eq_true rfl⟩ (Nat.le_of_ble_eq_true rfl) ⟨Nat.le_of_ble_eq_true rfl, Nat.le_of_ble_eq_true rfl⟩ dX7_readOne_8 rfl (st := []) (fun x_14 I_15 J_16 h_17 => ?_)
  obtain ⟨rfl, rfl, rx_14, fx_14⟩ := h_17
  have c_18 : fBegOne (x_12) = x_14 := fx_14.symm
  refine g_if_ne C (tgt := 20) dX7_readOne_11 (by decide) (fun h_19 => ?_) (fun h_19 => ?_)
  · skip
    have n_20 : ¬ x_14 = 0 := h_19
    have r_21 := ne_lo (lo := 1) n_20 rx_14 rc_0 rfl (by decide)
    refine g_aload_n C 1 dX7_readOne_20 rfl rfl ?_
    obtain ⟨x_22, hx_22, rx_22⟩ := ex_get (I := I) (a := x) (j := 5) (lo := (-2147483648)) (hi := 2147483647) hU.1 hLx (ro_o hkx (by decide)) rfl
    have f_23 : s_11.so = x_22 := (congrArg SP_.so hs_11).symm.trans hx_22
    refine g_getI C K hLx hkx f_7_28 (v := x_22) hx_22 dX7_readOne_21 ?_
    refine g_bipush C (v := 20) dX7_readOne_24 (by decide) ?_
    refine g_icmp_ge C (tgt := 35) dX7_readOne_26 (by decide) (fun h_24 => ?_) (fun h_24 => ?_)
    · skip
      have r_25 := le_r (h_24) rc_20 rx_22
      refine g_aload_n C 2 dX7_readOne_35 rfl rfl ?_
      refine g_iconst C (v := 4) dX7_readOne_36 (by decide) ?_
      refine g_callVI C K (c_X10_fail W9 hLa0 hka0 4 (rg_w rc_4 (by decide) (by decide)) hU) hLa0 hka0 (by decide) rfl v_7_73 rfl ⟨rfl, rfl⟩ ⟨Nat.le_of_ble_eq_true rfl, Nat.le_of_ble_eq_true rfl⟩ (Nat.le_of_ble_eq_true rfl) ⟨Nat.le_of_ble_eq_true rfl, Nat.le_of_ble_eq_true rfl⟩ dX7_readOne_37 rfl (st := []) (fun x_26 I_27 J_28 h_29 => ?_)
      obtain ⟨hUI_27, hFI_27, hGJ_28, rx_26, fx_26⟩ := h_29
      have hF_30 := fq_tr hF hFI_27 (by decide)
      have hG_31 := fq_tr hG hGJ_28 (by decide)
      obtain ⟨s_33, hs_33⟩ : ∃ z, TPq I_27 J_28 a0 b_5 b_6 b_7 b_8 b_9 = z := ⟨_, rfl⟩
      have c_32 : fFail (4) (s_10) = (x_26, s_33) := by have q := fx_26; simp only [etqa0, hs_10, hs_33] at q; exact q.symm
      have hs_34 : TBq I_27 J_28 a1 b_1 b_2 b_3 = s_4 := (bq_fq wbqa1 hFI_27 hGJ_28 (by decide) (by decide)).trans hs_4
      have hs_35 : SPq I_27 J_28 x = s_11 := (sq_fq wsqx hFI_27 hGJ_28 (by decide) (by decide)).trans hs_11
      exact g_zret (ty := .boolean) (r := x_26) B K rfl (nar_z (rg_w rx_26 (by decide) (by decide))) ⟨hUI_27, hF_30, hG_31, rx_26, (by simp only [fOne_z, fAnd2, fFailS, fCmp, ebqa1, hs_34, hs_4, etqa0, hs_33, hs_10, esqx, hs_35, hs_11, hx_12, f_13, c_18, h_19, hx_22, f_23, h_24, c_32, if_true, if_false, bqM_pnm, bqM_par, bqM_dnm, bqM_persons, bqM_dishes, bqM_law, bqM_dogs, TB_.w_pnm, TB_.w_par, TB_.w_dnm, TB_.w_persons, TB_.w_dishes, TB_.w_law, TB_.w_dogs, sqM_sl, sqM_so, SP_.w_sl, SP_.w_so, tqM_by_, tqM_wd, tqM_tk, tqM_pl, tqM_vl, tqM_len, tqM_n, tqM_at_, tqM_token, tqM_place, tqM_value, tqM_fault, tqM_fat, TP_.w_by_, TP_.w_wd, TP_.w_tk, TP_.w_pl, TP_.w_vl, TP_.w_len, TP_.w_n, TP_.w_at_, TP_.w_token, TP_.w_place, TP_.w_value, TP_.w_fault, TP_.w_fat])⟩ dX7_readOne_40
    · skip
      have r_36 := lt_l (hi := 19) (nle h_24) rx_22 rc_20 (by decide)
      refine g_iload_n C 4 dX7_readOne_29 rfl rfl ?_
      refine g_bipush C (v := 8) dX7_readOne_30 (by decide) ?_
      refine g_icmp_le C (tgt := 41) dX7_readOne_32 (by decide) (fun h_37 => ?_) (fun h_37 => ?_)
      · skip
        have r_38 := le_l (h_37) ra2 rc_8
        exact rg_no r_38 (by decide)
      · skip
        refine g_aload_n C 2 dX7_readOne_35 rfl rfl ?_
        refine g_iconst C (v := 4) dX7_readOne_36 (by decide) ?_
        refine g_callVI C K (c_X10_fail W9 hLa0 hka0 4 (rg_w rc_4 (by decide) (by decide)) hU) hLa0 hka0 (by decide) rfl v_7_73 rfl ⟨rfl, rfl⟩ ⟨Nat.le_of_ble_eq_true rfl, Nat.le_of_ble_eq_true rfl⟩ (Nat.le_of_ble_eq_true rfl) ⟨Nat.le_of_ble_eq_true rfl, Nat.le_of_ble_eq_true rfl⟩ dX7_readOne_37 rfl (st := []) (fun x_39 I_40 J_41 h_42 => ?_)
        obtain ⟨hUI_40, hFI_40, hGJ_41, rx_39, fx_39⟩ := h_42
        have hF_43 := fq_tr hF hFI_40 (by decide)
        have hG_44 := fq_tr hG hGJ_41 (by decide)
        obtain ⟨s_46, hs_46⟩ : ∃ z, TPq I_40 J_41 a0 b_5 b_6 b_7 b_8 b_9 = z := ⟨_, rfl⟩
        have c_45 : fFail (4) (s_10) = (x_39, s_46) := by have q := fx_39; simp only [etqa0, hs_10, hs_46] at q; exact q.symm
        have hs_47 : TBq I_40 J_41 a1 b_1 b_2 b_3 = s_4 := (bq_fq wbqa1 hFI_40 hGJ_41 (by decide) (by decide)).trans hs_4
        have hs_48 : SPq I_40 J_41 x = s_11 := (sq_fq wsqx hFI_40 hGJ_41 (by decide) (by decide)).trans hs_11
        exact g_zret (ty := .boolean) (r := x_39) B K rfl (nar_z (rg_w rx_39 (by decide) (by decide))) ⟨hUI_40, hF_43, hG_44, rx_39, (by simp only [fOne_z, fAnd2, fFailS, fCmp, ebqa1, hs_47, hs_4, etqa0, hs_46, hs_10, esqx, hs_48, hs_11, hx_12, f_13, c_18, h_19, hx_22, f_23, h_24, (nle h_24), h_37, (nle h_37), c_45, if_true, if_false, bqM_pnm, bqM_par, bqM_dnm, bqM_persons, bqM_dishes, bqM_law, bqM_dogs, TB_.w_pnm, TB_.w_par, TB_.w_dnm, TB_.w_persons, TB_.w_dishes, TB_.w_law, TB_.w_dogs, sqM_sl, sqM_so, SP_.w_sl, SP_.w_so, tqM_by_, tqM_wd, tqM_tk, tqM_pl, tqM_vl, tqM_len, tqM_n, tqM_at_, tqM_token, tqM_place, tqM_value, tqM_fault, tqM_fat, TP_.w_by_, TP_.w_wd, TP_.w_tk, TP_.w_pl, TP_.w_vl, TP_.w_len, TP_.w_n, TP_.w_at_, TP_.w_token, TP_.w_place, TP_.w_value, TP_.w_fault, TP_.w_fat])⟩ dX7_readOne_40
  · skip
    have r_49 := (⟨(rx_14).1, (eq_rg (h_19) rc_0).2⟩ : Rg 0 0 x_14)
    refine g_aload_n C 2 dX7_readOne_14 rfl rfl ?_
    refine g_iconst C (v := 1) dX7_readOne_15 (by decide) ?_
    refine g_callVI C K (c_X10_fail W9 hLa0 hka0 1 (rg_w rc_1 (by decide) (by decide)) hU) hLa0 hka0 (by decide) rfl v_7_73 rfl ⟨rfl, rfl⟩ ⟨Nat.le_of_ble_eq_true rfl, Nat.le_of_ble_eq_true rfl⟩ (Nat.le_of_ble_eq_true rfl) ⟨Nat.le_of_ble_eq_true rfl, Nat.le_of_ble_eq_true rfl⟩ dX7_readOne_16 rfl (st := []) (fun x_50 I_51 J_52 h_53 => ?_)
    obtain ⟨hUI_51, hFI_51, hGJ_52, rx_50, fx_50⟩ := h_53
    have hF_54 := fq_tr hF hFI_51 (by decide)
    have hG_55 := fq_tr hG hGJ_52 (by decide)
    obtain ⟨s_57, hs_57⟩ : ∃ z, TPq I_51 J_52 a0 b_5 b_6 b_7 b_8 b_9 = z := ⟨_, rfl⟩
    have c_56 : fFail (1) (s_10) = (x_50, s_57) := by have q := fx_50; simp only [etqa0, hs_10, hs_57] at q; exact q.symm
    have hs_58 : TBq I_51 J_52 a1 b_1 b_2 b_3 = s_4 := (bq_fq wbqa1 hFI_51 hGJ_52 (by decide) (by decide)).trans hs_4
    have hs_59 : SPq I_51 J_52 x = s_11 := (sq_fq wsqx hFI_51 hGJ_52 (by decide) (by decide)).trans hs_11
    exact g_zret (ty := .boolean) (r := x_50) B K rfl (nar_z (rg_w rx_50 (by decide) (by decide))) ⟨hUI_51, hF_54, hG_55, rx_50, (by simp only [fOne_z, fAnd2, fFailS, fCmp, ebqa1, hs_58, hs_4, etqa0, hs_57, hs_10, esqx, hs_59, hs_11, hx_12, f_13, c_18, (eq_true h_19), c_56, if_true, if_false, bqM_pnm, bqM_par, bqM_dnm, bqM_persons, bqM_dishes, bqM_law, bqM_dogs, TB_.w_pnm, TB_.w_par, TB_.w_dnm, TB_.w_persons, TB_.w_dishes, TB_.w_law, TB_.w_dogs, sqM_sl, sqM_so, SP_.w_sl, SP_.w_so, tqM_by_, tqM_wd, tqM_tk, tqM_pl, tqM_vl, tqM_len, tqM_n, tqM_at_, tqM_token, tqM_place, tqM_value, tqM_fault, tqM_fat, TP_.w_by_, TP_.w_wd, TP_.w_tk, TP_.w_pl, TP_.w_vl, TP_.w_len, TP_.w_n, TP_.w_at_, TP_.w_token, TP_.w_place, TP_.w_value, TP_.w_fault, TP_.w_fat])⟩ dX7_readOne_19
set_option maxRecDepth 100000 in
set_option maxHeartbeats 8000000 in
theorem c_X7_readAll_9 {l : Launch} {D : va_G} {cy : Nat → ClassId} {L : List Nat} {κ ln : Nat → Nat} {R : Nat → Nat → Option Nat} {I : Nat → Nat → Int32} {J : Nat → Nat → Int64} {ow : Nat → Nat × Nat} (W9 : ∀ a ∈ L, Shp L κ ln R ow a) {x : Nat} (hLx : x ∈ L) (hkx : κ x = 7) {a0 : Nat} (hLa0 : a0 ∈ L) (hka0 : κ a0 = 10) {a1 : Nat} (hLa1 : a1 ∈ L) (hka1 : κ a1 = 8) (a2 : Int32) (ra2 : Rg 9 9 a2) (hU : Iv L κ R ow I) : CtI l yX7_readAll cX7_readAll 6 (some .boolean) { frames := 2, cells := 0, slots := 0, locals := 45 } D cy L κ ln R I J [.ref x, .ref a0, .ref a1, .int a2] (fun r I2 J2 => Iv L κ R ow I2 ∧ Fq L κ ow [1011, 1012] I I2 ∧ Fq L κ ow [] J J2 ∧ Rg 0 0 r ∧ ((r, TPf R I2 J2 a0, SPf R I2 J2 x) = fAll 0 (TBf R I J a1) (TPf R I J a0) (SPf R I J x))) := by
  refine CtI.of (by decide +kernel) (Nat.le_of_ble_eq_true rfl) ?_
  intro p e s m below meth c B K
  have C := B.1
  have hF : Fq L κ ow [1011, 1012] I I := fq_rf
  have hG : Fq L κ ow [] J J := fq_rf
  obtain ⟨b_1, hb_1, hb_1L, hb_1k, hb_1n, hb_1o⟩ := shp_a (W9 a1 hLa1) hka1 0 15 7 rfl (by decide)
  obtain ⟨b_2, hb_2, hb_2L, hb_2k, hb_2n, hb_2o⟩ := shp_a (W9 a1 hLa1) hka1 2 14 7 rfl (by decide)
  obtain ⟨b_3, hb_3, hb_3L, hb_3k, hb_3n, hb_3o⟩ := shp_a (W9 a1 hLa1) hka1 3 15 6 rfl (by decide)
  have ebqa1 : ∀ I J, TBf R I J a1 = TBq I J a1 b_1 b_2 b_3 := fun I J => by simp only [TBf, rr_, Option.getD_some, hb_1, hb_2, hb_3]
  have wbqa1 : bqw_ L κ ow a1 b_1 b_2 b_3 := ⟨⟨hLa1, hb_1L, hb_2L, hb_3L⟩, ⟨(ro_o hka1 (by decide)), (ro_a hb_1k (by decide) hb_1o hka1 rfl), (ro_a hb_2k (by decide) hb_2o hka1 rfl), (ro_a hb_3k (by decide) hb_3o hka1 rfl)⟩⟩
  obtain ⟨s_4, hs_4⟩ : ∃ z, TBq I J a1 b_1 b_2 b_3 = z := ⟨_, rfl⟩
  obtain ⟨b_5, hb_5, hb_5L, hb_5k, hb_5n, hb_5o⟩ := shp_a (W9 a0 hLa0) hka0 0 13 940 rfl (by decide)
  obtain ⟨b_6, hb_6, hb_6L, hb_6k, hb_6n, hb_6o⟩ := shp_a (W9 a0 hLa0) hka0 1 15 28 rfl (by decide)
  obtain ⟨b_7, hb_7, hb_7L, hb_7k, hb_7n, hb_7o⟩ := shp_a (W9 a0 hLa0) hka0 2 14 901 rfl (by decide)
  obtain ⟨b_8, hb_8, hb_8L, hb_8k, hb_8n, hb_8o⟩ := shp_a (W9 a0 hLa0) hka0 3 14 901 rfl (by decide)
  obtain ⟨b_9, hb_9, hb_9L, hb_9k, hb_9n, hb_9o⟩ := shp_a (W9 a0 hLa0) hka0 4 15 901 rfl (by decide)
  have etqa0 : ∀ I J, TPf R I J a0 = TPq I J a0 b_5 b_6 b_7 b_8 b_9 := fun I J => by simp only [TPf, rr_, Option.getD_some, hb_5, hb_6, hb_7, hb_8, hb_9]
  have wtqa0 : tqw_ L κ ow a0 b_5 b_6 b_7 b_8 b_9 := ⟨⟨hLa0, hb_5L, hb_6L, hb_7L, hb_8L, hb_9L⟩, ⟨(ro_o hka0 (by decide)), (ro_a hb_5k (by decide) hb_5o hka0 rfl), (ro_a hb_6k (by decide) hb_6o hka0 rfl), (ro_a hb_7k (by decide) hb_7o hka0 rfl), (ro_a hb_8k (by decide) hb_8o hka0 rfl), (ro_a hb_9k (by decide) hb_9o hka0 rfl)⟩⟩
  obtain ⟨s_10, hs_10⟩ : ∃ z, TPq I J a0 b_5 b_6 b_7 b_8 b_9 = z := ⟨_, rfl⟩
  have esqx : ∀ I J, SPf R I J x = SPq I J x := fun I J => by simp only [SPf, rr_, Option.getD_some]
  have wsqx : sqw_ L κ ow x := ⟨hLx, (ro_o hkx (by decide))⟩
  obtain ⟨s_11, hs_11⟩ : ∃ z, SPq I J x = z := ⟨_, rfl⟩
  refine g_lo (is := [0, 1, 2, 3]) (lo2 := [(0, .ref x), (1, .ref a0), (2, .ref a1), (3, .int a2)]) rfl ?_
  have j_12 : ∀ (I_12 : Nat → Nat → Int32) (J_13 : Nat → Nat → Int64) (hU_14 : Iv L κ R ow I_12) (hF_15 : Fq L κ ow [1011, 1012] I I_12) (hG_16 : Fq L κ ow [] J J_13) (v_17 : Int32) (rv_17 : Rg 0 0 v_17) (hq_18 : fLp (fOne 0 (TBq I_12 J_13 a1 b_1 b_2 b_3)) 18 0 v_17 (TPq I_12 J_13 a0 b_5 b_6 b_7 b_8 b_9) (SPq I_12 J_13 x) = fAll 0 s_4 s_10 s_11), WG p l e { frames := 2, cells := 0, slots := 0, locals := 45 } s m ([.ref x, .ref a0, .ref a1, .int a2] : List Value).toArray below meth c 6 0 0 (MQ below (Qi_ D cy L κ ln R (fun r I2 J2 => Iv L κ R ow I2 ∧ Fq L κ ow [1011, 1012] I I2 ∧ Fq L κ ow [] J J2 ∧ Rg 0 0 r ∧ ((r, TPf R I2 J2 a0, SPf R I2 J2 x) = fAll 0 (TBf R I J a1) (TPf R I J a0) (SPf R I J x)))) ([.ref x, .ref a0, .ref a1, .int a2] : List Value).toArray s 0 0 (Al_ L)) D cy (Al_ L) s.heap L κ ln R I_12 J_13 12 [(0, .ref x), (1, .ref a0), (2, .ref a1), (3, .int a2), (4, .int v_17), (5, .int 0)] [] := by
    intro I_12 J_13 hU_14 hF_15 hG_16 v_17 rv_17 hq_18
    obtain ⟨s_19, hs_19⟩ : ∃ z, TBq I_12 J_13 a1 b_1 b_2 b_3 = z := ⟨_, rfl⟩
    obtain ⟨s_20, hs_20⟩ : ∃ z, TPq I_12 J_13 a0 b_5 b_6 b_7 b_8 b_9 = z := ⟨_, rfl⟩
    obtain ⟨s_21, hs_21⟩ : ∃ z, SPq I_12 J_13 x = z := ⟨_, rfl⟩
    simp only [hs_19, hs_20, hs_21] at hq_18
    have hQ_22 := hq_18.symm
    have u_23 := fLp_eq (rd := fOne 0 s_19) (k := 18) (i := 0) (r := v_17) (t := s_20) (s := s_21) (rg_w rc_0 (by decide) (by decide))
    refine g_iload C 5 dX7_readAll_12 rfl ?_
    refine g_bipush C (v := 20) dX7_readAll_14 (by decide) ?_
    refine g_icmp_ge C (tgt := 71) dX7_readAll_16 (by decide) (fun h_24 => ?_) (fun h_24 => ?_)
    · skip
      exact absurd (h_24) (by decide)
    · skip
      refine g_iload C 4 dX7_readAll_19 rfl ?_
      refine g_if_eq C (tgt := 71) dX7_readAll_21 (by decide) (fun h_25 => ?_) (fun h_25 => ?_)
      · skip
        refine g_iload C 4 dX7_readAll_71 rfl ?_
        exact g_zret (ty := .boolean) (r := v_17) B K rfl (nar_z (rg_w rv_17 (by decide) (by decide))) ⟨hU_14, hF_15, hG_16, rv_17, (by (try simp only [h_24, (nle h_24), (eq_true h_25), if_true, if_false, bqM_pnm, bqM_par, bqM_dnm, bqM_persons, bqM_dishes, bqM_law, bqM_dogs, TB_.w_pnm, TB_.w_par, TB_.w_dnm, TB_.w_persons, TB_.w_dishes, TB_.w_law, TB_.w_dogs, sqM_sl, sqM_so, SP_.w_sl, SP_.w_so, tqM_by_, tqM_wd, tqM_tk, tqM_pl, tqM_vl, tqM_len, tqM_n, tqM_at_, tqM_token, tqM_place, tqM_value, tqM_fault, tqM_fat, TP_.w_by_, TP_.w_wd, TP_.w_tk, TP_.w_pl, TP_.w_vl, TP_.w_len, TP_.w_n, TP_.w_at_, TP_.w_token, TP_.w_place, TP_.w_value, TP_.w_fault, TP_.w_fat] at hQ_22); (try simp only [h_24, (nle h_24), (eq_true h_25), if_true, if_false, bqM_pnm, bqM_par, bqM_dnm, bqM_persons, bqM_dishes, bqM_law, bqM_dogs, TB_.w_pnm, TB_.w_par, TB_.w_dnm, TB_.w_persons, TB_.w_dishes, TB_.w_law, TB_.w_dogs, sqM_sl, sqM_so, SP_.w_sl, SP_.w_so, tqM_by_, tqM_wd, tqM_tk, tqM_pl, tqM_vl, tqM_len, tqM_n, tqM_at_, tqM_token, tqM_place, tqM_value, tqM_fault, tqM_fat, TP_.w_by_, TP_.w_wd, TP_.w_tk, TP_.w_pl, TP_.w_vl, TP_.w_len, TP_.w_n, TP_.w_at_, TP_.w_token, TP_.w_place, TP_.w_value, TP_.w_fault, TP_.w_fat] at u_23); simp only [ebqa1, hs_19, hs_4, etqa0, hs_20, hs_10, esqx, hs_21, hs_11, hQ_22, u_23, h_24, (nle h_24), (eq_true h_25), if_true, if_false, bqM_pnm, bqM_par, bqM_dnm, bqM_persons, bqM_dishes, bqM_law, bqM_dogs, TB_.w_pnm, TB_.w_par, TB_.w_dnm, TB_.w_persons, TB_.w_dishes, TB_.w_law, TB_.w_dogs, sqM_sl, sqM_so, SP_.w_sl, SP_.w_so, tqM_by_, tqM_wd, tqM_tk, tqM_pl, tqM_vl, tqM_len, tqM_n, tqM_at_, tqM_token, tqM_place, tqM_value, tqM_fault, tqM_fat, TP_.w_by_, TP_.w_wd, TP_.w_tk, TP_.w_pl, TP_.w_vl, TP_.w_len, TP_.w_n, TP_.w_at_, TP_.w_token, TP_.w_place, TP_.w_value, TP_.w_fault, TP_.w_fat])⟩ dX7_readAll_73
      · skip
        exact ne_no (h_25) rv_17 rc_0
  refine g_aload_n C 0 dX7_readAll_0 rfl rfl ?_
  refine g_aload_n C 1 dX7_readAll_1 rfl rfl ?_
  refine g_aload_n C 2 dX7_readAll_2 rfl rfl ?_
  refine g_iload_n C 3 dX7_readAll_3 rfl rfl ?_
  refine g_callVI C K (c_X7_readOne_9 W9 hLx hkx hLa0 hka0 hLa1 hka1 a2 (ra2) hU) hLx hkx (by decide) rfl v_7_67 rfl ⟨rfl, rfl⟩ ⟨Nat.le_of_ble_eq_true rfl, Nat.le_of_ble_eq_true rfl⟩ (Nat.le_of_ble_eq_true rfl) ⟨Nat.le_of_ble_eq_true rfl, Nat.le_of_ble_eq_true rfl⟩ dX7_readAll_4 rfl (st := []) (fun x_26 I_27 J_28 h_29 => ?_)
  obtain ⟨hUI_27, hFI_27, hGJ_28, rx_26, fx_26⟩ := h_29
  have hF_30 := fq_tr hF hFI_27 (by decide)
  have hG_31 := fq_tr hG hGJ_28 (by decide)
  obtain ⟨s_33, hs_33⟩ : ∃ z, TPq I_27 J_28 a0 b_5 b_6 b_7 b_8 b_9 = z := ⟨_, rfl⟩
  obtain ⟨s_34, hs_34⟩ : ∃ z, SPq I_27 J_28 x = z := ⟨_, rfl⟩
  have c_32 : fOne 0 (s_4) (s_10) (s_11) = (x_26, s_33, s_34) := by have q := fx_26; simp only [ebqa1, etqa0, esqx, hs_4, hs_10, hs_11, hs_33, hs_34] at q; exact q.symm
  have hs_35 : TBq I_27 J_28 a1 b_1 b_2 b_3 = s_4 := (bq_fq wbqa1 hFI_27 hGJ_28 (by decide) (by decide)).trans hs_4
  refine g_istore C dX7_readAll_7 (by decide) (lo2 := [(4, .int x_26), (0, .ref x), (1, .ref a0), (2, .ref a1), (3, .int a2)]) rfl ?_
  refine g_iconst C (v := 0) dX7_readAll_9 (by decide) ?_
  refine g_istore C dX7_readAll_10 (by decide) (lo2 := [(5, .int 0), (4, .int x_26), (0, .ref x), (1, .ref a0), (2, .ref a1), (3, .int a2)]) rfl ?_
  refine g_lo (is := [2, 3, 4, 5, 1, 0]) (lo2 := [(0, .ref x), (1, .ref a0), (2, .ref a1), (3, .int a2), (4, .int x_26), (5, .int 0)]) rfl ?_
  exact j_12 I_27 J_28 hUI_27 hF_30 hG_31 x_26 (rx_26) (by simp only [fAll, ebqa1, hs_35, hs_4, etqa0, hs_33, hs_10, esqx, hs_34, hs_11, c_32, if_true, if_false, bqM_pnm, bqM_par, bqM_dnm, bqM_persons, bqM_dishes, bqM_law, bqM_dogs, TB_.w_pnm, TB_.w_par, TB_.w_dnm, TB_.w_persons, TB_.w_dishes, TB_.w_law, TB_.w_dogs, sqM_sl, sqM_so, SP_.w_sl, SP_.w_so, tqM_by_, tqM_wd, tqM_tk, tqM_pl, tqM_vl, tqM_len, tqM_n, tqM_at_, tqM_token, tqM_place, tqM_value, tqM_fault, tqM_fat, TP_.w_by_, TP_.w_wd, TP_.w_tk, TP_.w_pl, TP_.w_vl, TP_.w_len, TP_.w_n, TP_.w_at_, TP_.w_token, TP_.w_place, TP_.w_value, TP_.w_fault, TP_.w_fat])
set_option maxRecDepth 100000 in
set_option maxHeartbeats 8000000 in
theorem c_X7_readCond_9 {l : Launch} {D : va_G} {cy : Nat → ClassId} {L : List Nat} {κ ln : Nat → Nat} {R : Nat → Nat → Option Nat} {I : Nat → Nat → Int32} {J : Nat → Nat → Int64} {ow : Nat → Nat × Nat} (W9 : ∀ a ∈ L, Shp L κ ln R ow a) {x : Nat} (hLx : x ∈ L) (hkx : κ x = 7) {a0 : Nat} (hLa0 : a0 ∈ L) (hka0 : κ a0 = 10) {a1 : Nat} (hLa1 : a1 ∈ L) (hka1 : κ a1 = 8) (a2 : Int32) (ra2 : Rg 9 9 a2) (hU : Iv L κ R ow I) : CtI l yX7_readCond cX7_readCond 6 (some .boolean) { frames := 3, cells := 0, slots := 0, locals := 70 } D cy L κ ln R I J [.ref x, .ref a0, .ref a1, .int a2] (fun r I2 J2 => Iv L κ R ow I2 ∧ Fq L κ ow [1011, 1012] I I2 ∧ Fq L κ ow [] J J2 ∧ Rg 0 0 r ∧ ((r, TPf R I2 J2 a0, SPf R I2 J2 x) = fCond 0 (TBf R I J a1) (TPf R I J a0) (SPf R I J x))) := by
  refine CtI.of (by decide +kernel) (Nat.le_of_ble_eq_true rfl) ?_
  intro p e s m below meth c B K
  have C := B.1
  have hF : Fq L κ ow [1011, 1012] I I := fq_rf
  have hG : Fq L κ ow [] J J := fq_rf
  obtain ⟨b_1, hb_1, hb_1L, hb_1k, hb_1n, hb_1o⟩ := shp_a (W9 a1 hLa1) hka1 0 15 7 rfl (by decide)
  obtain ⟨b_2, hb_2, hb_2L, hb_2k, hb_2n, hb_2o⟩ := shp_a (W9 a1 hLa1) hka1 2 14 7 rfl (by decide)
  obtain ⟨b_3, hb_3, hb_3L, hb_3k, hb_3n, hb_3o⟩ := shp_a (W9 a1 hLa1) hka1 3 15 6 rfl (by decide)
  have ebqa1 : ∀ I J, TBf R I J a1 = TBq I J a1 b_1 b_2 b_3 := fun I J => by simp only [TBf, rr_, Option.getD_some, hb_1, hb_2, hb_3]
  have wbqa1 : bqw_ L κ ow a1 b_1 b_2 b_3 := ⟨⟨hLa1, hb_1L, hb_2L, hb_3L⟩, ⟨(ro_o hka1 (by decide)), (ro_a hb_1k (by decide) hb_1o hka1 rfl), (ro_a hb_2k (by decide) hb_2o hka1 rfl), (ro_a hb_3k (by decide) hb_3o hka1 rfl)⟩⟩
  obtain ⟨s_4, hs_4⟩ : ∃ z, TBq I J a1 b_1 b_2 b_3 = z := ⟨_, rfl⟩
  obtain ⟨b_5, hb_5, hb_5L, hb_5k, hb_5n, hb_5o⟩ := shp_a (W9 a0 hLa0) hka0 0 13 940 rfl (by decide)
  obtain ⟨b_6, hb_6, hb_6L, hb_6k, hb_6n, hb_6o⟩ := shp_a (W9 a0 hLa0) hka0 1 15 28 rfl (by decide)
  obtain ⟨b_7, hb_7, hb_7L, hb_7k, hb_7n, hb_7o⟩ := shp_a (W9 a0 hLa0) hka0 2 14 901 rfl (by decide)
  obtain ⟨b_8, hb_8, hb_8L, hb_8k, hb_8n, hb_8o⟩ := shp_a (W9 a0 hLa0) hka0 3 14 901 rfl (by decide)
  obtain ⟨b_9, hb_9, hb_9L, hb_9k, hb_9n, hb_9o⟩ := shp_a (W9 a0 hLa0) hka0 4 15 901 rfl (by decide)
  have etqa0 : ∀ I J, TPf R I J a0 = TPq I J a0 b_5 b_6 b_7 b_8 b_9 := fun I J => by simp only [TPf, rr_, Option.getD_some, hb_5, hb_6, hb_7, hb_8, hb_9]
  have wtqa0 : tqw_ L κ ow a0 b_5 b_6 b_7 b_8 b_9 := ⟨⟨hLa0, hb_5L, hb_6L, hb_7L, hb_8L, hb_9L⟩, ⟨(ro_o hka0 (by decide)), (ro_a hb_5k (by decide) hb_5o hka0 rfl), (ro_a hb_6k (by decide) hb_6o hka0 rfl), (ro_a hb_7k (by decide) hb_7o hka0 rfl), (ro_a hb_8k (by decide) hb_8o hka0 rfl), (ro_a hb_9k (by decide) hb_9o hka0 rfl)⟩⟩
  obtain ⟨s_10, hs_10⟩ : ∃ z, TPq I J a0 b_5 b_6 b_7 b_8 b_9 = z := ⟨_, rfl⟩
  have esqx : ∀ I J, SPf R I J x = SPq I J x := fun I J => by simp only [SPf, rr_, Option.getD_some]
  have wsqx : sqw_ L κ ow x := ⟨hLx, (ro_o hkx (by decide))⟩
  obtain ⟨s_11, hs_11⟩ : ∃ z, SPq I J x = z := ⟨_, rfl⟩
  refine g_lo (is := [0, 1, 2, 3]) (lo2 := [(0, .ref x), (1, .ref a0), (2, .ref a1), (3, .int a2)]) rfl ?_
  have j_12 : ∀ (I_12 : Nat → Nat → Int32) (J_13 : Nat → Nat → Int64) (hU_14 : Iv L κ R ow I_12) (hF_15 : Fq L κ ow [1011, 1012] I I_12) (hG_16 : Fq L κ ow [] J J_13) (v_17 : Int32) (rv_17 : Rg 0 0 v_17) (hq_18 : fLp (fAll 0 (TBq I_12 J_13 a1 b_1 b_2 b_3)) 17 0 v_17 (TPq I_12 J_13 a0 b_5 b_6 b_7 b_8 b_9) (SPq I_12 J_13 x) = fCond 0 s_4 s_10 s_11), WG p l e { frames := 3, cells := 0, slots := 0, locals := 70 } s m ([.ref x, .ref a0, .ref a1, .int a2] : List Value).toArray below meth c 6 0 0 (MQ below (Qi_ D cy L κ ln R (fun r I2 J2 => Iv L κ R ow I2 ∧ Fq L κ ow [1011, 1012] I I2 ∧ Fq L κ ow [] J J2 ∧ Rg 0 0 r ∧ ((r, TPf R I2 J2 a0, SPf R I2 J2 x) = fCond 0 (TBf R I J a1) (TPf R I J a0) (SPf R I J x)))) ([.ref x, .ref a0, .ref a1, .int a2] : List Value).toArray s 0 0 (Al_ L)) D cy (Al_ L) s.heap L κ ln R I_12 J_13 12 [(0, .ref x), (1, .ref a0), (2, .ref a1), (3, .int a2), (4, .int v_17), (5, .int 0)] [] := by
    intro I_12 J_13 hU_14 hF_15 hG_16 v_17 rv_17 hq_18
    obtain ⟨s_19, hs_19⟩ : ∃ z, TBq I_12 J_13 a1 b_1 b_2 b_3 = z := ⟨_, rfl⟩
    obtain ⟨s_20, hs_20⟩ : ∃ z, TPq I_12 J_13 a0 b_5 b_6 b_7 b_8 b_9 = z := ⟨_, rfl⟩
    obtain ⟨s_21, hs_21⟩ : ∃ z, SPq I_12 J_13 x = z := ⟨_, rfl⟩
    simp only [hs_19, hs_20, hs_21] at hq_18
    have hQ_22 := hq_18.symm
    have u_23 := fLp_eq (rd := fAll 0 s_19) (k := 17) (i := 0) (r := v_17) (t := s_20) (s := s_21) (rg_w rc_0 (by decide) (by decide))
    refine g_iload C 5 dX7_readCond_12 rfl ?_
    refine g_bipush C (v := 20) dX7_readCond_14 (by decide) ?_
    refine g_icmp_ge C (tgt := 71) dX7_readCond_16 (by decide) (fun h_24 => ?_) (fun h_24 => ?_)
    · skip
      exact absurd (h_24) (by decide)
    · skip
      refine g_iload C 4 dX7_readCond_19 rfl ?_
      refine g_if_eq C (tgt := 71) dX7_readCond_21 (by decide) (fun h_25 => ?_) (fun h_25 => ?_)
      · skip
        refine g_iload C 4 dX7_readCond_71 rfl ?_
        exact g_zret (ty := .boolean) (r := v_17) B K rfl (nar_z (rg_w rv_17 (by decide) (by decide))) ⟨hU_14, hF_15, hG_16, rv_17, (by (try simp only [h_24, (nle h_24), (eq_true h_25), if_true, if_false, bqM_pnm, bqM_par, bqM_dnm, bqM_persons, bqM_dishes, bqM_law, bqM_dogs, TB_.w_pnm, TB_.w_par, TB_.w_dnm, TB_.w_persons, TB_.w_dishes, TB_.w_law, TB_.w_dogs, sqM_sl, sqM_so, SP_.w_sl, SP_.w_so, tqM_by_, tqM_wd, tqM_tk, tqM_pl, tqM_vl, tqM_len, tqM_n, tqM_at_, tqM_token, tqM_place, tqM_value, tqM_fault, tqM_fat, TP_.w_by_, TP_.w_wd, TP_.w_tk, TP_.w_pl, TP_.w_vl, TP_.w_len, TP_.w_n, TP_.w_at_, TP_.w_token, TP_.w_place, TP_.w_value, TP_.w_fault, TP_.w_fat] at hQ_22); (try simp only [h_24, (nle h_24), (eq_true h_25), if_true, if_false, bqM_pnm, bqM_par, bqM_dnm, bqM_persons, bqM_dishes, bqM_law, bqM_dogs, TB_.w_pnm, TB_.w_par, TB_.w_dnm, TB_.w_persons, TB_.w_dishes, TB_.w_law, TB_.w_dogs, sqM_sl, sqM_so, SP_.w_sl, SP_.w_so, tqM_by_, tqM_wd, tqM_tk, tqM_pl, tqM_vl, tqM_len, tqM_n, tqM_at_, tqM_token, tqM_place, tqM_value, tqM_fault, tqM_fat, TP_.w_by_, TP_.w_wd, TP_.w_tk, TP_.w_pl, TP_.w_vl, TP_.w_len, TP_.w_n, TP_.w_at_, TP_.w_token, TP_.w_place, TP_.w_value, TP_.w_fault, TP_.w_fat] at u_23); simp only [ebqa1, hs_19, hs_4, etqa0, hs_20, hs_10, esqx, hs_21, hs_11, hQ_22, u_23, h_24, (nle h_24), (eq_true h_25), if_true, if_false, bqM_pnm, bqM_par, bqM_dnm, bqM_persons, bqM_dishes, bqM_law, bqM_dogs, TB_.w_pnm, TB_.w_par, TB_.w_dnm, TB_.w_persons, TB_.w_dishes, TB_.w_law, TB_.w_dogs, sqM_sl, sqM_so, SP_.w_sl, SP_.w_so, tqM_by_, tqM_wd, tqM_tk, tqM_pl, tqM_vl, tqM_len, tqM_n, tqM_at_, tqM_token, tqM_place, tqM_value, tqM_fault, tqM_fat, TP_.w_by_, TP_.w_wd, TP_.w_tk, TP_.w_pl, TP_.w_vl, TP_.w_len, TP_.w_n, TP_.w_at_, TP_.w_token, TP_.w_place, TP_.w_value, TP_.w_fault, TP_.w_fat])⟩ dX7_readCond_73
      · skip
        exact ne_no (h_25) rv_17 rc_0
  refine g_aload_n C 0 dX7_readCond_0 rfl rfl ?_
  refine g_aload_n C 1 dX7_readCond_1 rfl rfl ?_
  refine g_aload_n C 2 dX7_readCond_2 rfl rfl ?_
  refine g_iload_n C 3 dX7_readCond_3 rfl rfl ?_
  refine g_callVI C K (c_X7_readAll_9 W9 hLx hkx hLa0 hka0 hLa1 hka1 a2 (ra2) hU) hLx hkx (by decide) rfl v_7_54 rfl ⟨rfl, rfl⟩ ⟨Nat.le_of_ble_eq_true rfl, Nat.le_of_ble_eq_true rfl⟩ (Nat.le_of_ble_eq_true rfl) ⟨Nat.le_of_ble_eq_true rfl, Nat.le_of_ble_eq_true rfl⟩ dX7_readCond_4 rfl (st := []) (fun x_26 I_27 J_28 h_29 => ?_)
  obtain ⟨hUI_27, hFI_27, hGJ_28, rx_26, fx_26⟩ := h_29
  have hF_30 := fq_tr hF hFI_27 (by decide)
  have hG_31 := fq_tr hG hGJ_28 (by decide)
  obtain ⟨s_33, hs_33⟩ : ∃ z, TPq I_27 J_28 a0 b_5 b_6 b_7 b_8 b_9 = z := ⟨_, rfl⟩
  obtain ⟨s_34, hs_34⟩ : ∃ z, SPq I_27 J_28 x = z := ⟨_, rfl⟩
  have c_32 : fAll 0 (s_4) (s_10) (s_11) = (x_26, s_33, s_34) := by have q := fx_26; simp only [ebqa1, etqa0, esqx, hs_4, hs_10, hs_11, hs_33, hs_34] at q; exact q.symm
  have hs_35 : TBq I_27 J_28 a1 b_1 b_2 b_3 = s_4 := (bq_fq wbqa1 hFI_27 hGJ_28 (by decide) (by decide)).trans hs_4
  refine g_istore C dX7_readCond_7 (by decide) (lo2 := [(4, .int x_26), (0, .ref x), (1, .ref a0), (2, .ref a1), (3, .int a2)]) rfl ?_
  refine g_iconst C (v := 0) dX7_readCond_9 (by decide) ?_
  refine g_istore C dX7_readCond_10 (by decide) (lo2 := [(5, .int 0), (4, .int x_26), (0, .ref x), (1, .ref a0), (2, .ref a1), (3, .int a2)]) rfl ?_
  refine g_lo (is := [2, 3, 4, 5, 1, 0]) (lo2 := [(0, .ref x), (1, .ref a0), (2, .ref a1), (3, .int a2), (4, .int x_26), (5, .int 0)]) rfl ?_
  exact j_12 I_27 J_28 hUI_27 hF_30 hG_31 x_26 (rx_26) (by simp only [fCond, ebqa1, hs_35, hs_4, etqa0, hs_33, hs_10, esqx, hs_34, hs_11, c_32, if_true, if_false, bqM_pnm, bqM_par, bqM_dnm, bqM_persons, bqM_dishes, bqM_law, bqM_dogs, TB_.w_pnm, TB_.w_par, TB_.w_dnm, TB_.w_persons, TB_.w_dishes, TB_.w_law, TB_.w_dogs, sqM_sl, sqM_so, SP_.w_sl, SP_.w_so, tqM_by_, tqM_wd, tqM_tk, tqM_pl, tqM_vl, tqM_len, tqM_n, tqM_at_, tqM_token, tqM_place, tqM_value, tqM_fault, tqM_fat, TP_.w_by_, TP_.w_wd, TP_.w_tk, TP_.w_pl, TP_.w_vl, TP_.w_len, TP_.w_n, TP_.w_at_, TP_.w_token, TP_.w_place, TP_.w_value, TP_.w_fault, TP_.w_fat])
set_option maxRecDepth 100000 in
set_option maxHeartbeats 8000000 in
theorem c_X7_readPlainOne {l : Launch} {D : va_G} {cy : Nat → ClassId} {L : List Nat} {κ ln : Nat → Nat} {R : Nat → Nat → Option Nat} {I : Nat → Nat → Int32} {J : Nat → Nat → Int64} {ow : Nat → Nat × Nat} (W9 : ∀ a ∈ L, Shp L κ ln R ow a) {x : Nat} (hLx : x ∈ L) (hkx : κ x = 7) {a0 : Nat} (hLa0 : a0 ∈ L) (hka0 : κ a0 = 10) {a1 : Nat} (hLa1 : a1 ∈ L) (hka1 : κ a1 = 8) (a2 : Int32) (hU : Iv L κ R ow I) : CtI l yX7_readPlainOne cX7_readPlainOne 6 (some .boolean) { frames := 2, cells := 0, slots := 0, locals := 44 } D cy L κ ln R I J [.ref x, .ref a0, .ref a1, .int a2] (fun r I2 J2 => Iv L κ R ow I2 ∧ Fq L κ ow [704, 1007, 1008, 1009, 1011, 1012, 52000, 52100, 52200] I I2 ∧ Fq L κ ow [1010] J J2 ∧ Rg 0 1 r ∧ ((r, TPf R I2 J2 a0, SPf R I2 J2 x) = fPlain a2 (TBf R I J a1) (TPf R I J a0) (SPf R I J x))) := by
  refine CtI.of (by decide +kernel) (Nat.le_of_ble_eq_true rfl) ?_
  intro p e s m below meth c B K
  have C := B.1
  have hF : Fq L κ ow [704, 1007, 1008, 1009, 1011, 1012, 52000, 52100, 52200] I I := fq_rf
  have hG : Fq L κ ow [1010] J J := fq_rf
  obtain ⟨b_1, hb_1, hb_1L, hb_1k, hb_1n, hb_1o⟩ := shp_a (W9 a1 hLa1) hka1 0 15 7 rfl (by decide)
  obtain ⟨b_2, hb_2, hb_2L, hb_2k, hb_2n, hb_2o⟩ := shp_a (W9 a1 hLa1) hka1 2 14 7 rfl (by decide)
  obtain ⟨b_3, hb_3, hb_3L, hb_3k, hb_3n, hb_3o⟩ := shp_a (W9 a1 hLa1) hka1 3 15 6 rfl (by decide)
  have ebqa1 : ∀ I J, TBf R I J a1 = TBq I J a1 b_1 b_2 b_3 := fun I J => by simp only [TBf, rr_, Option.getD_some, hb_1, hb_2, hb_3]
  have wbqa1 : bqw_ L κ ow a1 b_1 b_2 b_3 := ⟨⟨hLa1, hb_1L, hb_2L, hb_3L⟩, ⟨(ro_o hka1 (by decide)), (ro_a hb_1k (by decide) hb_1o hka1 rfl), (ro_a hb_2k (by decide) hb_2o hka1 rfl), (ro_a hb_3k (by decide) hb_3o hka1 rfl)⟩⟩
  obtain ⟨s_4, hs_4⟩ : ∃ z, TBq I J a1 b_1 b_2 b_3 = z := ⟨_, rfl⟩
  obtain ⟨b_5, hb_5, hb_5L, hb_5k, hb_5n, hb_5o⟩ := shp_a (W9 a0 hLa0) hka0 0 13 940 rfl (by decide)
  obtain ⟨b_6, hb_6, hb_6L, hb_6k, hb_6n, hb_6o⟩ := shp_a (W9 a0 hLa0) hka0 1 15 28 rfl (by decide)
  obtain ⟨b_7, hb_7, hb_7L, hb_7k, hb_7n, hb_7o⟩ := shp_a (W9 a0 hLa0) hka0 2 14 901 rfl (by decide)
  obtain ⟨b_8, hb_8, hb_8L, hb_8k, hb_8n, hb_8o⟩ := shp_a (W9 a0 hLa0) hka0 3 14 901 rfl (by decide)
  obtain ⟨b_9, hb_9, hb_9L, hb_9k, hb_9n, hb_9o⟩ := shp_a (W9 a0 hLa0) hka0 4 15 901 rfl (by decide)
  have etqa0 : ∀ I J, TPf R I J a0 = TPq I J a0 b_5 b_6 b_7 b_8 b_9 := fun I J => by simp only [TPf, rr_, Option.getD_some, hb_5, hb_6, hb_7, hb_8, hb_9]
  have wtqa0 : tqw_ L κ ow a0 b_5 b_6 b_7 b_8 b_9 := ⟨⟨hLa0, hb_5L, hb_6L, hb_7L, hb_8L, hb_9L⟩, ⟨(ro_o hka0 (by decide)), (ro_a hb_5k (by decide) hb_5o hka0 rfl), (ro_a hb_6k (by decide) hb_6o hka0 rfl), (ro_a hb_7k (by decide) hb_7o hka0 rfl), (ro_a hb_8k (by decide) hb_8o hka0 rfl), (ro_a hb_9k (by decide) hb_9o hka0 rfl)⟩⟩
  obtain ⟨s_10, hs_10⟩ : ∃ z, TPq I J a0 b_5 b_6 b_7 b_8 b_9 = z := ⟨_, rfl⟩
  have esqx : ∀ I J, SPf R I J x = SPq I J x := fun I J => by simp only [SPf, rr_, Option.getD_some]
  have wsqx : sqw_ L κ ow x := ⟨hLx, (ro_o hkx (by decide))⟩
  obtain ⟨s_11, hs_11⟩ : ∃ z, SPq I J x = z := ⟨_, rfl⟩
  refine g_lo (is := [0, 1, 2, 3]) (lo2 := [(0, .ref x), (1, .ref a0), (2, .ref a1), (3, .int a2)]) rfl ?_
  refine g_iload_n C 3 dX7_readPlainOne_0 rfl rfl ?_
  refine g_iconst C (v := 5) dX7_readPlainOne_1 (by decide) ?_
  refine g_icmp_ne C (tgt := 42) dX7_readPlainOne_2 (by decide) (fun h_12 => ?_) (fun h_12 => ?_)
  · skip
    have n_13 : ¬ a2 = 5 := h_12
    refine g_iload_n C 3 dX7_readPlainOne_42 rfl rfl ?_
    refine g_bipush C (v := 23) dX7_readPlainOne_43 (by decide) ?_
    refine g_icmp_ne C (tgt := 85) dX7_readPlainOne_45 (by decide) (fun h_14 => ?_) (fun h_14 => ?_)
    · skip
      have n_15 : ¬ a2 = 23 := h_14
      refine g_iload_n C 3 dX7_readPlainOne_85 rfl rfl ?_
      refine g_bipush C (v := 23) dX7_readPlainOne_86 (by decide) ?_
      refine g_icmp_ge C (tgt := 99) dX7_readPlainOne_88 (by decide) (fun h_16 => ?_) (fun h_16 => ?_)
      · skip
        have r_17 := le_r (h_16) rc_23 (rg_all a2)
        have r_18 := ne_lo (lo := 24) n_15 r_17 rc_23 rfl (by decide)
        refine g_aload_n C 1 dX7_readPlainOne_99 rfl rfl ?_
        obtain ⟨x_19, hx_19, rx_19⟩ := ex_get (I := I) (a := a0) (j := 8) (lo := (-2147483648)) (hi := 2147483647) hU.1 hLa0 (ro_o hka0 (by decide)) rfl
        have f_20 : s_10.token = x_19 := (congrArg TP_.token hs_10).symm.trans hx_19
        refine g_getI C K hLa0 hka0 f_7_57 (v := x_19) hx_19 dX7_readPlainOne_100 ?_
        refine g_istore C dX7_readPlainOne_103 (by decide) (lo2 := [(4, .int x_19), (0, .ref x), (1, .ref a0), (2, .ref a1), (3, .int a2)]) rfl ?_
        refine g_iload C 0 dX7_readPlainOne_105 rfl ?_
        refine g_bipush C (v := 60) dX7_readPlainOne_107 (by decide) ?_
        refine g_icmp_eq C (tgt := 132) dX7_readPlainOne_109 (by decide) (fun h_21 => ?_) (fun h_21 => ?_)
        · skip
          have r_22 := (⟨(eq_rg (h_21) rc_60).1, (eq_rg (h_21) rc_60).2⟩ : Rg 60 60 x_19)
          refine g_aload_n C 2 dX7_readPlainOne_132 rfl rfl ?_
          refine g_callVV C K (c_X10_advance W9 hLa0 hka0   hU) hLa0 hka0 (by decide) rfl v_7_60 rfl ⟨rfl, rfl⟩ ⟨Nat.le_of_ble_eq_true rfl, Nat.le_of_ble_eq_true rfl⟩ (Nat.le_of_ble_eq_true rfl) ⟨Nat.le_of_ble_eq_true rfl, Nat.le_of_ble_eq_true rfl⟩ dX7_readPlainOne_133 rfl (st := []) (fun I_24 J_25 h_26 => ?_)
          obtain ⟨hUI_24, hFI_24, hGJ_25, fx_23⟩ := h_26
          have hF_27 := fq_tr hF hFI_24 (by decide)
          have hG_28 := fq_tr hG hGJ_25 (by decide)
          obtain ⟨s_30, hs_30⟩ : ∃ z, TPq I_24 J_25 a0 b_5 b_6 b_7 b_8 b_9 = z := ⟨_, rfl⟩
          have c_29 : fAdvance (s_10) = s_30 := by have q := fx_23; simp only [etqa0, hs_10, hs_30] at q; exact q.symm
          have hs_31 : TBq I_24 J_25 a1 b_1 b_2 b_3 = s_4 := (bq_fq wbqa1 hFI_24 hGJ_25 (by decide) (by decide)).trans hs_4
          have hs_32 : SPq I_24 J_25 x = s_11 := (sq_fq wsqx hFI_24 hGJ_25 (by decide) (by decide)).trans hs_11
          refine g_aload_n C 2 dX7_readPlainOne_136 rfl rfl ?_
          refine g_iconst C (v := 0) dX7_readPlainOne_137 (by decide) ?_
          refine g_sipush C (v := 999) dX7_readPlainOne_138 (by decide) ?_
          refine g_callVI C K (c_X10_takeNumber W9 hLa0 hka0 0 999 (rg_w rc_0 (by decide) (by decide)) (rg_w rc_999 (by decide) (by decide)) hUI_24) hLa0 hka0 (by decide) rfl v_7_96 rfl ⟨rfl, rfl⟩ ⟨Nat.le_of_ble_eq_true rfl, Nat.le_of_ble_eq_true rfl⟩ (Nat.le_of_ble_eq_true rfl) ⟨Nat.le_of_ble_eq_true rfl, Nat.le_of_ble_eq_true rfl⟩ dX7_readPlainOne_141 rfl (st := []) (fun x_33 I_34 J_35 h_36 => ?_)
          obtain ⟨hUI_34, hFI_34, hGJ_35, rx_33, fx_33⟩ := h_36
          have hF_37 := fq_tr hF_27 hFI_34 (by decide)
          have hG_38 := fq_tr hG_28 hGJ_35 (by decide)
          obtain ⟨s_40, hs_40⟩ : ∃ z, TPq I_34 J_35 a0 b_5 b_6 b_7 b_8 b_9 = z := ⟨_, rfl⟩
          have c_39 : fTakeNumber (0) (999) (s_30) = (x_33, s_40) := by have q := fx_33; simp only [etqa0, hs_30, hs_40] at q; exact q.symm
          have hs_41 : TBq I_34 J_35 a1 b_1 b_2 b_3 = s_4 := (bq_fq wbqa1 hFI_34 hGJ_35 (by decide) (by decide)).trans hs_31
          have hs_42 : SPq I_34 J_35 x = s_11 := (sq_fq wsqx hFI_34 hGJ_35 (by decide) (by decide)).trans hs_32
          refine g_istore C dX7_readPlainOne_144 (by decide) (lo2 := [(5, .int x_33), (4, .int x_19), (0, .ref x), (1, .ref a0), (2, .ref a1), (3, .int a2)]) rfl ?_
          refine g_iload C 0 dX7_readPlainOne_146 rfl ?_
          refine g_iconst C (v := (-1)) dX7_readPlainOne_148 (by decide) ?_
          refine g_icmp_eq C (tgt := 168) dX7_readPlainOne_149 (by decide) (fun h_43 => ?_) (fun h_43 => ?_)
          · skip
            have r_44 := (⟨(eq_rg (h_43) rc_m1).1, (eq_rg (h_43) rc_m1).2⟩ : Rg (-1) (-1) x_33)
            refine g_iconst C (v := 0) dX7_readPlainOne_168 (by decide) ?_
            exact g_zret (ty := .boolean) (r := 0) B K rfl (rfl) ⟨hUI_34, hF_37, hG_38, rg_w rc_0 (by decide) (by decide), (by simp only [fPlain, fAnd2, fFailS, fCmp, ebqa1, hs_41, hs_4, etqa0, hs_40, hs_10, esqx, hs_42, hs_11, h_12, h_14, h_16, hx_19, f_20, (eq_true h_21), c_29, c_39, (eq_true h_43), if_true, if_false, bqM_pnm, bqM_par, bqM_dnm, bqM_persons, bqM_dishes, bqM_law, bqM_dogs, TB_.w_pnm, TB_.w_par, TB_.w_dnm, TB_.w_persons, TB_.w_dishes, TB_.w_law, TB_.w_dogs, sqM_sl, sqM_so, SP_.w_sl, SP_.w_so, tqM_by_, tqM_wd, tqM_tk, tqM_pl, tqM_vl, tqM_len, tqM_n, tqM_at_, tqM_token, tqM_place, tqM_value, tqM_fault, tqM_fat, TP_.w_by_, TP_.w_wd, TP_.w_tk, TP_.w_pl, TP_.w_vl, TP_.w_len, TP_.w_n, TP_.w_at_, TP_.w_token, TP_.w_place, TP_.w_value, TP_.w_fault, TP_.w_fat])⟩ dX7_readPlainOne_169
          · skip
            have n_45 : ¬ x_33 = (-1) := h_43
            refine g_aload_n C 2 dX7_readPlainOne_152 rfl rfl ?_
            refine g_iload_n C 5 dX7_readPlainOne_153 rfl rfl ?_
            refine g_iload C 1 dX7_readPlainOne_154 rfl ?_
            refine g_iload C 0 dX7_readPlainOne_156 rfl ?_
            refine g_callVI C K (c_X7_addStep W9 hLx hkx a2 x_19 x_33 (rg_w r_22 (by decide) (by decide)) hUI_34  (fun q => absurd q n_15)) hLx hkx (by decide) rfl v_7_63 rfl ⟨rfl, rfl⟩ ⟨Nat.le_of_ble_eq_true rfl, Nat.le_of_ble_eq_true rfl⟩ (Nat.le_of_ble_eq_true rfl) ⟨Nat.le_of_ble_eq_true rfl, Nat.le_of_ble_eq_true rfl⟩ dX7_readPlainOne_158 rfl (st := []) (fun x_46 I_47 J_48 h_49 => ?_)
            obtain ⟨hUI_47, hFI_47, hGJ_48, rx_46, fx_46⟩ := h_49
            have hF_50 := fq_tr hF_37 hFI_47 (by decide)
            have hG_51 := fq_tr hG_38 hGJ_48 (by decide)
            obtain ⟨s_53, hs_53⟩ : ∃ z, SPq I_47 J_48 x = z := ⟨_, rfl⟩
            have c_52 : fAddStep (s_11) = (x_46, s_53) := by have q := fx_46; simp only [esqx, hs_42, hs_53] at q; exact q.symm
            have hs_54 : TBq I_47 J_48 a1 b_1 b_2 b_3 = s_4 := (bq_fq wbqa1 hFI_47 hGJ_48 (by decide) (by decide)).trans hs_41
            have hs_55 : TPq I_47 J_48 a0 b_5 b_6 b_7 b_8 b_9 = s_40 := (tq_fq wtqa0 hFI_47 hGJ_48 (by decide) (by decide)).trans hs_40
            refine g_if_eq C (tgt := 168) dX7_readPlainOne_161 (by decide) (fun h_56 => ?_) (fun h_56 => ?_)
            · skip
              have r_57 := (⟨(rx_46).1, (eq_rg (h_56) rc_0).2⟩ : Rg 0 0 x_46)
              refine g_iconst C (v := 0) dX7_readPlainOne_168 (by decide) ?_
              exact g_zret (ty := .boolean) (r := 0) B K rfl (rfl) ⟨hUI_47, hF_50, hG_51, rg_w rc_0 (by decide) (by decide), (by simp only [fPlain, fAnd2, fFailS, fCmp, ebqa1, hs_54, hs_4, etqa0, hs_55, hs_10, esqx, hs_53, hs_11, h_12, h_14, h_16, hx_19, f_20, (eq_true h_21), c_29, c_39, h_43, c_52, (eq_true h_56), if_true, if_false, bqM_pnm, bqM_par, bqM_dnm, bqM_persons, bqM_dishes, bqM_law, bqM_dogs, TB_.w_pnm, TB_.w_par, TB_.w_dnm, TB_.w_persons, TB_.w_dishes, TB_.w_law, TB_.w_dogs, sqM_sl, sqM_so, SP_.w_sl, SP_.w_so, tqM_by_, tqM_wd, tqM_tk, tqM_pl, tqM_vl, tqM_len, tqM_n, tqM_at_, tqM_token, tqM_place, tqM_value, tqM_fault, tqM_fat, TP_.w_by_, TP_.w_wd, TP_.w_tk, TP_.w_pl, TP_.w_vl, TP_.w_len, TP_.w_n, TP_.w_at_, TP_.w_token, TP_.w_place, TP_.w_value, TP_.w_fault, TP_.w_fat])⟩ dX7_readPlainOne_169
            · skip
              have n_58 : ¬ x_46 = 0 := h_56
              have r_59 := ne_lo (lo := 1) n_58 rx_46 rc_0 rfl (by decide)
              refine g_iconst C (v := 1) dX7_readPlainOne_164 (by decide) ?_
              refine g_goto C (tgt := 169) dX7_readPlainOne_165 (by decide) ?_
              exact g_zret (ty := .boolean) (r := 1) B K rfl (rfl) ⟨hUI_47, hF_50, hG_51, rg_w rc_1 (by decide) (by decide), (by simp only [fPlain, fAnd2, fFailS, fCmp, ebqa1, hs_54, hs_4, etqa0, hs_55, hs_10, esqx, hs_53, hs_11, h_12, h_14, h_16, hx_19, f_20, (eq_true h_21), c_29, c_39, h_43, c_52, h_56, if_true, if_false, bqM_pnm, bqM_par, bqM_dnm, bqM_persons, bqM_dishes, bqM_law, bqM_dogs, TB_.w_pnm, TB_.w_par, TB_.w_dnm, TB_.w_persons, TB_.w_dishes, TB_.w_law, TB_.w_dogs, sqM_sl, sqM_so, SP_.w_sl, SP_.w_so, tqM_by_, tqM_wd, tqM_tk, tqM_pl, tqM_vl, tqM_len, tqM_n, tqM_at_, tqM_token, tqM_place, tqM_value, tqM_fault, tqM_fat, TP_.w_by_, TP_.w_wd, TP_.w_tk, TP_.w_pl, TP_.w_vl, TP_.w_len, TP_.w_n, TP_.w_at_, TP_.w_token, TP_.w_place, TP_.w_value, TP_.w_fault, TP_.w_fat])⟩ dX7_readPlainOne_169
        · skip
          have n_60 : ¬ x_19 = 60 := h_21
          refine g_iload C 0 dX7_readPlainOne_112 rfl ?_
          refine g_bipush C (v := 61) dX7_readPlainOne_114 (by decide) ?_
          refine g_icmp_eq C (tgt := 132) dX7_readPlainOne_116 (by decide) (fun h_61 => ?_) (fun h_61 => ?_)
          · skip
            have r_62 := (⟨(eq_rg (h_61) rc_61).1, (eq_rg (h_61) rc_61).2⟩ : Rg 61 61 x_19)
            refine g_aload_n C 2 dX7_readPlainOne_132 rfl rfl ?_
            refine g_callVV C K (c_X10_advance W9 hLa0 hka0   hU) hLa0 hka0 (by decide) rfl v_7_60 rfl ⟨rfl, rfl⟩ ⟨Nat.le_of_ble_eq_true rfl, Nat.le_of_ble_eq_true rfl⟩ (Nat.le_of_ble_eq_true rfl) ⟨Nat.le_of_ble_eq_true rfl, Nat.le_of_ble_eq_true rfl⟩ dX7_readPlainOne_133 rfl (st := []) (fun I_64 J_65 h_66 => ?_)
            obtain ⟨hUI_64, hFI_64, hGJ_65, fx_63⟩ := h_66
            have hF_67 := fq_tr hF hFI_64 (by decide)
            have hG_68 := fq_tr hG hGJ_65 (by decide)
            obtain ⟨s_70, hs_70⟩ : ∃ z, TPq I_64 J_65 a0 b_5 b_6 b_7 b_8 b_9 = z := ⟨_, rfl⟩
            have c_69 : fAdvance (s_10) = s_70 := by have q := fx_63; simp only [etqa0, hs_10, hs_70] at q; exact q.symm
            have hs_71 : TBq I_64 J_65 a1 b_1 b_2 b_3 = s_4 := (bq_fq wbqa1 hFI_64 hGJ_65 (by decide) (by decide)).trans hs_4
            have hs_72 : SPq I_64 J_65 x = s_11 := (sq_fq wsqx hFI_64 hGJ_65 (by decide) (by decide)).trans hs_11
            refine g_aload_n C 2 dX7_readPlainOne_136 rfl rfl ?_
            refine g_iconst C (v := 0) dX7_readPlainOne_137 (by decide) ?_
            refine g_sipush C (v := 999) dX7_readPlainOne_138 (by decide) ?_
            refine g_callVI C K (c_X10_takeNumber W9 hLa0 hka0 0 999 (rg_w rc_0 (by decide) (by decide)) (rg_w rc_999 (by decide) (by decide)) hUI_64) hLa0 hka0 (by decide) rfl v_7_96 rfl ⟨rfl, rfl⟩ ⟨Nat.le_of_ble_eq_true rfl, Nat.le_of_ble_eq_true rfl⟩ (Nat.le_of_ble_eq_true rfl) ⟨Nat.le_of_ble_eq_true rfl, Nat.le_of_ble_eq_true rfl⟩ dX7_readPlainOne_141 rfl (st := []) (fun x_73 I_74 J_75 h_76 => ?_)
            obtain ⟨hUI_74, hFI_74, hGJ_75, rx_73, fx_73⟩ := h_76
            have hF_77 := fq_tr hF_67 hFI_74 (by decide)
            have hG_78 := fq_tr hG_68 hGJ_75 (by decide)
            obtain ⟨s_80, hs_80⟩ : ∃ z, TPq I_74 J_75 a0 b_5 b_6 b_7 b_8 b_9 = z := ⟨_, rfl⟩
            have c_79 : fTakeNumber (0) (999) (s_70) = (x_73, s_80) := by have q := fx_73; simp only [etqa0, hs_70, hs_80] at q; exact q.symm
            have hs_81 : TBq I_74 J_75 a1 b_1 b_2 b_3 = s_4 := (bq_fq wbqa1 hFI_74 hGJ_75 (by decide) (by decide)).trans hs_71
            have hs_82 : SPq I_74 J_75 x = s_11 := (sq_fq wsqx hFI_74 hGJ_75 (by decide) (by decide)).trans hs_72
            refine g_istore C dX7_readPlainOne_144 (by decide) (lo2 := [(5, .int x_73), (4, .int x_19), (0, .ref x), (1, .ref a0), (2, .ref a1), (3, .int a2)]) rfl ?_
            refine g_iload C 0 dX7_readPlainOne_146 rfl ?_
            refine g_iconst C (v := (-1)) dX7_readPlainOne_148 (by decide) ?_
            refine g_icmp_eq C (tgt := 168) dX7_readPlainOne_149 (by decide) (fun h_83 => ?_) (fun h_83 => ?_)
            · skip
              have r_84 := (⟨(eq_rg (h_83) rc_m1).1, (eq_rg (h_83) rc_m1).2⟩ : Rg (-1) (-1) x_73)
              refine g_iconst C (v := 0) dX7_readPlainOne_168 (by decide) ?_
              exact g_zret (ty := .boolean) (r := 0) B K rfl (rfl) ⟨hUI_74, hF_77, hG_78, rg_w rc_0 (by decide) (by decide), (by simp only [fPlain, fAnd2, fFailS, fCmp, ebqa1, hs_81, hs_4, etqa0, hs_80, hs_10, esqx, hs_82, hs_11, h_12, h_14, h_16, hx_19, f_20, h_21, (eq_true h_61), c_69, c_79, (eq_true h_83), if_true, if_false, bqM_pnm, bqM_par, bqM_dnm, bqM_persons, bqM_dishes, bqM_law, bqM_dogs, TB_.w_pnm, TB_.w_par, TB_.w_dnm, TB_.w_persons, TB_.w_dishes, TB_.w_law, TB_.w_dogs, sqM_sl, sqM_so, SP_.w_sl, SP_.w_so, tqM_by_, tqM_wd, tqM_tk, tqM_pl, tqM_vl, tqM_len, tqM_n, tqM_at_, tqM_token, tqM_place, tqM_value, tqM_fault, tqM_fat, TP_.w_by_, TP_.w_wd, TP_.w_tk, TP_.w_pl, TP_.w_vl, TP_.w_len, TP_.w_n, TP_.w_at_, TP_.w_token, TP_.w_place, TP_.w_value, TP_.w_fault, TP_.w_fat])⟩ dX7_readPlainOne_169
            · skip
              have n_85 : ¬ x_73 = (-1) := h_83
              refine g_aload_n C 2 dX7_readPlainOne_152 rfl rfl ?_
              refine g_iload_n C 5 dX7_readPlainOne_153 rfl rfl ?_
              refine g_iload C 1 dX7_readPlainOne_154 rfl ?_
              refine g_iload C 0 dX7_readPlainOne_156 rfl ?_
              refine g_callVI C K (c_X7_addStep W9 hLx hkx a2 x_19 x_73 (rg_w r_62 (by decide) (by decide)) hUI_74  (fun q => absurd q n_15)) hLx hkx (by decide) rfl v_7_63 rfl ⟨rfl, rfl⟩ ⟨Nat.le_of_ble_eq_true rfl, Nat.le_of_ble_eq_true rfl⟩ (Nat.le_of_ble_eq_true rfl) ⟨Nat.le_of_ble_eq_true rfl, Nat.le_of_ble_eq_true rfl⟩ dX7_readPlainOne_158 rfl (st := []) (fun x_86 I_87 J_88 h_89 => ?_)
              obtain ⟨hUI_87, hFI_87, hGJ_88, rx_86, fx_86⟩ := h_89
              have hF_90 := fq_tr hF_77 hFI_87 (by decide)
              have hG_91 := fq_tr hG_78 hGJ_88 (by decide)
              obtain ⟨s_93, hs_93⟩ : ∃ z, SPq I_87 J_88 x = z := ⟨_, rfl⟩
              have c_92 : fAddStep (s_11) = (x_86, s_93) := by have q := fx_86; simp only [esqx, hs_82, hs_93] at q; exact q.symm
              have hs_94 : TBq I_87 J_88 a1 b_1 b_2 b_3 = s_4 := (bq_fq wbqa1 hFI_87 hGJ_88 (by decide) (by decide)).trans hs_81
              have hs_95 : TPq I_87 J_88 a0 b_5 b_6 b_7 b_8 b_9 = s_80 := (tq_fq wtqa0 hFI_87 hGJ_88 (by decide) (by decide)).trans hs_80
              refine g_if_eq C (tgt := 168) dX7_readPlainOne_161 (by decide) (fun h_96 => ?_) (fun h_96 => ?_)
              · skip
                have r_97 := (⟨(rx_86).1, (eq_rg (h_96) rc_0).2⟩ : Rg 0 0 x_86)
                refine g_iconst C (v := 0) dX7_readPlainOne_168 (by decide) ?_
                exact g_zret (ty := .boolean) (r := 0) B K rfl (rfl) ⟨hUI_87, hF_90, hG_91, rg_w rc_0 (by decide) (by decide), (by simp only [fPlain, fAnd2, fFailS, fCmp, ebqa1, hs_94, hs_4, etqa0, hs_95, hs_10, esqx, hs_93, hs_11, h_12, h_14, h_16, hx_19, f_20, h_21, (eq_true h_61), c_69, c_79, h_83, c_92, (eq_true h_96), if_true, if_false, bqM_pnm, bqM_par, bqM_dnm, bqM_persons, bqM_dishes, bqM_law, bqM_dogs, TB_.w_pnm, TB_.w_par, TB_.w_dnm, TB_.w_persons, TB_.w_dishes, TB_.w_law, TB_.w_dogs, sqM_sl, sqM_so, SP_.w_sl, SP_.w_so, tqM_by_, tqM_wd, tqM_tk, tqM_pl, tqM_vl, tqM_len, tqM_n, tqM_at_, tqM_token, tqM_place, tqM_value, tqM_fault, tqM_fat, TP_.w_by_, TP_.w_wd, TP_.w_tk, TP_.w_pl, TP_.w_vl, TP_.w_len, TP_.w_n, TP_.w_at_, TP_.w_token, TP_.w_place, TP_.w_value, TP_.w_fault, TP_.w_fat])⟩ dX7_readPlainOne_169
              · skip
                have n_98 : ¬ x_86 = 0 := h_96
                have r_99 := ne_lo (lo := 1) n_98 rx_86 rc_0 rfl (by decide)
                refine g_iconst C (v := 1) dX7_readPlainOne_164 (by decide) ?_
                refine g_goto C (tgt := 169) dX7_readPlainOne_165 (by decide) ?_
                exact g_zret (ty := .boolean) (r := 1) B K rfl (rfl) ⟨hUI_87, hF_90, hG_91, rg_w rc_1 (by decide) (by decide), (by simp only [fPlain, fAnd2, fFailS, fCmp, ebqa1, hs_94, hs_4, etqa0, hs_95, hs_10, esqx, hs_93, hs_11, h_12, h_14, h_16, hx_19, f_20, h_21, (eq_true h_61), c_69, c_79, h_83, c_92, h_96, if_true, if_false, bqM_pnm, bqM_par, bqM_dnm, bqM_persons, bqM_dishes, bqM_law, bqM_dogs, TB_.w_pnm, TB_.w_par, TB_.w_dnm, TB_.w_persons, TB_.w_dishes, TB_.w_law, TB_.w_dogs, sqM_sl, sqM_so, SP_.w_sl, SP_.w_so, tqM_by_, tqM_wd, tqM_tk, tqM_pl, tqM_vl, tqM_len, tqM_n, tqM_at_, tqM_token, tqM_place, tqM_value, tqM_fault, tqM_fat, TP_.w_by_, TP_.w_wd, TP_.w_tk, TP_.w_pl, TP_.w_vl, TP_.w_len, TP_.w_n, TP_.w_at_, TP_.w_token, TP_.w_place, TP_.w_value, TP_.w_fault, TP_.w_fat])⟩ dX7_readPlainOne_169
          · skip
            have n_100 : ¬ x_19 = 61 := h_61
            refine g_iload C 0 dX7_readPlainOne_119 rfl ?_
            refine g_bipush C (v := 62) dX7_readPlainOne_121 (by decide) ?_
            refine g_icmp_eq C (tgt := 132) dX7_readPlainOne_123 (by decide) (fun h_101 => ?_) (fun h_101 => ?_)
            · skip
              have r_102 := (⟨(eq_rg (h_101) rc_62).1, (eq_rg (h_101) rc_62).2⟩ : Rg 62 62 x_19)
              refine g_aload_n C 2 dX7_readPlainOne_132 rfl rfl ?_
              refine g_callVV C K (c_X10_advance W9 hLa0 hka0   hU) hLa0 hka0 (by decide) rfl v_7_60 rfl ⟨rfl, rfl⟩ ⟨Nat.le_of_ble_eq_true rfl, Nat.le_of_ble_eq_true rfl⟩ (Nat.le_of_ble_eq_true rfl) ⟨Nat.le_of_ble_eq_true rfl, Nat.le_of_ble_eq_true rfl⟩ dX7_readPlainOne_133 rfl (st := []) (fun I_104 J_105 h_106 => ?_)
              obtain ⟨hUI_104, hFI_104, hGJ_105, fx_103⟩ := h_106
              have hF_107 := fq_tr hF hFI_104 (by decide)
              have hG_108 := fq_tr hG hGJ_105 (by decide)
              obtain ⟨s_110, hs_110⟩ : ∃ z, TPq I_104 J_105 a0 b_5 b_6 b_7 b_8 b_9 = z := ⟨_, rfl⟩
              have c_109 : fAdvance (s_10) = s_110 := by have q := fx_103; simp only [etqa0, hs_10, hs_110] at q; exact q.symm
              have hs_111 : TBq I_104 J_105 a1 b_1 b_2 b_3 = s_4 := (bq_fq wbqa1 hFI_104 hGJ_105 (by decide) (by decide)).trans hs_4
              have hs_112 : SPq I_104 J_105 x = s_11 := (sq_fq wsqx hFI_104 hGJ_105 (by decide) (by decide)).trans hs_11
              refine g_aload_n C 2 dX7_readPlainOne_136 rfl rfl ?_
              refine g_iconst C (v := 0) dX7_readPlainOne_137 (by decide) ?_
              refine g_sipush C (v := 999) dX7_readPlainOne_138 (by decide) ?_
              refine g_callVI C K (c_X10_takeNumber W9 hLa0 hka0 0 999 (rg_w rc_0 (by decide) (by decide)) (rg_w rc_999 (by decide) (by decide)) hUI_104) hLa0 hka0 (by decide) rfl v_7_96 rfl ⟨rfl, rfl⟩ ⟨Nat.le_of_ble_eq_true rfl, Nat.le_of_ble_eq_true rfl⟩ (Nat.le_of_ble_eq_true rfl) ⟨Nat.le_of_ble_eq_true rfl, Nat.le_of_ble_eq_true rfl⟩ dX7_readPlainOne_141 rfl (st := []) (fun x_113 I_114 J_115 h_116 => ?_)
              obtain ⟨hUI_114, hFI_114, hGJ_115, rx_113, fx_113⟩ := h_116
              have hF_117 := fq_tr hF_107 hFI_114 (by decide)
              have hG_118 := fq_tr hG_108 hGJ_115 (by decide)
              obtain ⟨s_120, hs_120⟩ : ∃ z, TPq I_114 J_115 a0 b_5 b_6 b_7 b_8 b_9 = z := ⟨_, rfl⟩
              have c_119 : fTakeNumber (0) (999) (s_110) = (x_113, s_120) := by have q := fx_113; simp only [etqa0, hs_110, hs_120] at q; exact q.symm
              have hs_121 : TBq I_114 J_115 a1 b_1 b_2 b_3 = s_4 := (bq_fq wbqa1 hFI_114 hGJ_115 (by decide) (by decide)).trans hs_111
              have hs_122 : SPq I_114 J_115 x = s_11 := (sq_fq wsqx hFI_114 hGJ_115 (by decide) (by decide)).trans hs_112
              refine g_istore C dX7_readPlainOne_144 (by decide) (lo2 := [(5, .int x_113), (4, .int x_19), (0, .ref x), (1, .ref a0), (2, .ref a1), (3, .int a2)]) rfl ?_
              refine g_iload C 0 dX7_readPlainOne_146 rfl ?_
              refine g_iconst C (v := (-1)) dX7_readPlainOne_148 (by decide) ?_
              refine g_icmp_eq C (tgt := 168) dX7_readPlainOne_149 (by decide) (fun h_123 => ?_) (fun h_123 => ?_)
              · skip
                have r_124 := (⟨(eq_rg (h_123) rc_m1).1, (eq_rg (h_123) rc_m1).2⟩ : Rg (-1) (-1) x_113)
                refine g_iconst C (v := 0) dX7_readPlainOne_168 (by decide) ?_
                exact g_zret (ty := .boolean) (r := 0) B K rfl (rfl) ⟨hUI_114, hF_117, hG_118, rg_w rc_0 (by decide) (by decide), (by simp only [fPlain, fAnd2, fFailS, fCmp, ebqa1, hs_121, hs_4, etqa0, hs_120, hs_10, esqx, hs_122, hs_11, h_12, h_14, h_16, hx_19, f_20, h_21, h_61, (eq_true h_101), c_109, c_119, (eq_true h_123), if_true, if_false, bqM_pnm, bqM_par, bqM_dnm, bqM_persons, bqM_dishes, bqM_law, bqM_dogs, TB_.w_pnm, TB_.w_par, TB_.w_dnm, TB_.w_persons, TB_.w_dishes, TB_.w_law, TB_.w_dogs, sqM_sl, sqM_so, SP_.w_sl, SP_.w_so, tqM_by_, tqM_wd, tqM_tk, tqM_pl, tqM_vl, tqM_len, tqM_n, tqM_at_, tqM_token, tqM_place, tqM_value, tqM_fault, tqM_fat, TP_.w_by_, TP_.w_wd, TP_.w_tk, TP_.w_pl, TP_.w_vl, TP_.w_len, TP_.w_n, TP_.w_at_, TP_.w_token, TP_.w_place, TP_.w_value, TP_.w_fault, TP_.w_fat])⟩ dX7_readPlainOne_169
              · skip
                have n_125 : ¬ x_113 = (-1) := h_123
                refine g_aload_n C 2 dX7_readPlainOne_152 rfl rfl ?_
                refine g_iload_n C 5 dX7_readPlainOne_153 rfl rfl ?_
                refine g_iload C 1 dX7_readPlainOne_154 rfl ?_
                refine g_iload C 0 dX7_readPlainOne_156 rfl ?_
                refine g_callVI C K (c_X7_addStep W9 hLx hkx a2 x_19 x_113 (rg_w r_102 (by decide) (by decide)) hUI_114  (fun q => absurd q n_15)) hLx hkx (by decide) rfl v_7_63 rfl ⟨rfl, rfl⟩ ⟨Nat.le_of_ble_eq_true rfl, Nat.le_of_ble_eq_true rfl⟩ (Nat.le_of_ble_eq_true rfl) ⟨Nat.le_of_ble_eq_true rfl, Nat.le_of_ble_eq_true rfl⟩ dX7_readPlainOne_158 rfl (st := []) (fun x_126 I_127 J_128 h_129 => ?_)
                obtain ⟨hUI_127, hFI_127, hGJ_128, rx_126, fx_126⟩ := h_129
                have hF_130 := fq_tr hF_117 hFI_127 (by decide)
                have hG_131 := fq_tr hG_118 hGJ_128 (by decide)
                obtain ⟨s_133, hs_133⟩ : ∃ z, SPq I_127 J_128 x = z := ⟨_, rfl⟩
                have c_132 : fAddStep (s_11) = (x_126, s_133) := by have q := fx_126; simp only [esqx, hs_122, hs_133] at q; exact q.symm
                have hs_134 : TBq I_127 J_128 a1 b_1 b_2 b_3 = s_4 := (bq_fq wbqa1 hFI_127 hGJ_128 (by decide) (by decide)).trans hs_121
                have hs_135 : TPq I_127 J_128 a0 b_5 b_6 b_7 b_8 b_9 = s_120 := (tq_fq wtqa0 hFI_127 hGJ_128 (by decide) (by decide)).trans hs_120
                refine g_if_eq C (tgt := 168) dX7_readPlainOne_161 (by decide) (fun h_136 => ?_) (fun h_136 => ?_)
                · skip
                  have r_137 := (⟨(rx_126).1, (eq_rg (h_136) rc_0).2⟩ : Rg 0 0 x_126)
                  refine g_iconst C (v := 0) dX7_readPlainOne_168 (by decide) ?_
                  exact g_zret (ty := .boolean) (r := 0) B K rfl (rfl) ⟨hUI_127, hF_130, hG_131, rg_w rc_0 (by decide) (by decide), (by simp only [fPlain, fAnd2, fFailS, fCmp, ebqa1, hs_134, hs_4, etqa0, hs_135, hs_10, esqx, hs_133, hs_11, h_12, h_14, h_16, hx_19, f_20, h_21, h_61, (eq_true h_101), c_109, c_119, h_123, c_132, (eq_true h_136), if_true, if_false, bqM_pnm, bqM_par, bqM_dnm, bqM_persons, bqM_dishes, bqM_law, bqM_dogs, TB_.w_pnm, TB_.w_par, TB_.w_dnm, TB_.w_persons, TB_.w_dishes, TB_.w_law, TB_.w_dogs, sqM_sl, sqM_so, SP_.w_sl, SP_.w_so, tqM_by_, tqM_wd, tqM_tk, tqM_pl, tqM_vl, tqM_len, tqM_n, tqM_at_, tqM_token, tqM_place, tqM_value, tqM_fault, tqM_fat, TP_.w_by_, TP_.w_wd, TP_.w_tk, TP_.w_pl, TP_.w_vl, TP_.w_len, TP_.w_n, TP_.w_at_, TP_.w_token, TP_.w_place, TP_.w_value, TP_.w_fault, TP_.w_fat])⟩ dX7_readPlainOne_169
                · skip
                  have n_138 : ¬ x_126 = 0 := h_136
                  have r_139 := ne_lo (lo := 1) n_138 rx_126 rc_0 rfl (by decide)
                  refine g_iconst C (v := 1) dX7_readPlainOne_164 (by decide) ?_
                  refine g_goto C (tgt := 169) dX7_readPlainOne_165 (by decide) ?_
                  exact g_zret (ty := .boolean) (r := 1) B K rfl (rfl) ⟨hUI_127, hF_130, hG_131, rg_w rc_1 (by decide) (by decide), (by simp only [fPlain, fAnd2, fFailS, fCmp, ebqa1, hs_134, hs_4, etqa0, hs_135, hs_10, esqx, hs_133, hs_11, h_12, h_14, h_16, hx_19, f_20, h_21, h_61, (eq_true h_101), c_109, c_119, h_123, c_132, h_136, if_true, if_false, bqM_pnm, bqM_par, bqM_dnm, bqM_persons, bqM_dishes, bqM_law, bqM_dogs, TB_.w_pnm, TB_.w_par, TB_.w_dnm, TB_.w_persons, TB_.w_dishes, TB_.w_law, TB_.w_dogs, sqM_sl, sqM_so, SP_.w_sl, SP_.w_so, tqM_by_, tqM_wd, tqM_tk, tqM_pl, tqM_vl, tqM_len, tqM_n, tqM_at_, tqM_token, tqM_place, tqM_value, tqM_fault, tqM_fat, TP_.w_by_, TP_.w_wd, TP_.w_tk, TP_.w_pl, TP_.w_vl, TP_.w_len, TP_.w_n, TP_.w_at_, TP_.w_token, TP_.w_place, TP_.w_value, TP_.w_fault, TP_.w_fat])⟩ dX7_readPlainOne_169
            · skip
              have n_140 : ¬ x_19 = 62 := h_101
              refine g_aload_n C 2 dX7_readPlainOne_126 rfl rfl ?_
              refine g_iconst C (v := 1) dX7_readPlainOne_127 (by decide) ?_
              refine g_callVI C K (c_X10_fail W9 hLa0 hka0 1 (rg_w rc_1 (by decide) (by decide)) hU) hLa0 hka0 (by decide) rfl v_7_73 rfl ⟨rfl, rfl⟩ ⟨Nat.le_of_ble_eq_true rfl, Nat.le_of_ble_eq_true rfl⟩ (Nat.le_of_ble_eq_true rfl) ⟨Nat.le_of_ble_eq_true rfl, Nat.le_of_ble_eq_true rfl⟩ dX7_readPlainOne_128 rfl (st := []) (fun x_141 I_142 J_143 h_144 => ?_)
              obtain ⟨hUI_142, hFI_142, hGJ_143, rx_141, fx_141⟩ := h_144
              have hF_145 := fq_tr hF hFI_142 (by decide)
              have hG_146 := fq_tr hG hGJ_143 (by decide)
              obtain ⟨s_148, hs_148⟩ : ∃ z, TPq I_142 J_143 a0 b_5 b_6 b_7 b_8 b_9 = z := ⟨_, rfl⟩
              have c_147 : fFail (1) (s_10) = (x_141, s_148) := by have q := fx_141; simp only [etqa0, hs_10, hs_148] at q; exact q.symm
              have hs_149 : TBq I_142 J_143 a1 b_1 b_2 b_3 = s_4 := (bq_fq wbqa1 hFI_142 hGJ_143 (by decide) (by decide)).trans hs_4
              have hs_150 : SPq I_142 J_143 x = s_11 := (sq_fq wsqx hFI_142 hGJ_143 (by decide) (by decide)).trans hs_11
              exact g_zret (ty := .boolean) (r := x_141) B K rfl (nar_z (rg_w rx_141 (by decide) (by decide))) ⟨hUI_142, hF_145, hG_146, rg_w rx_141 (by decide) (by decide), (by simp only [fPlain, fAnd2, fFailS, fCmp, ebqa1, hs_149, hs_4, etqa0, hs_148, hs_10, esqx, hs_150, hs_11, h_12, h_14, h_16, hx_19, f_20, h_21, h_61, h_101, c_147, if_true, if_false, bqM_pnm, bqM_par, bqM_dnm, bqM_persons, bqM_dishes, bqM_law, bqM_dogs, TB_.w_pnm, TB_.w_par, TB_.w_dnm, TB_.w_persons, TB_.w_dishes, TB_.w_law, TB_.w_dogs, sqM_sl, sqM_so, SP_.w_sl, SP_.w_so, tqM_by_, tqM_wd, tqM_tk, tqM_pl, tqM_vl, tqM_len, tqM_n, tqM_at_, tqM_token, tqM_place, tqM_value, tqM_fault, tqM_fat, TP_.w_by_, TP_.w_wd, TP_.w_tk, TP_.w_pl, TP_.w_vl, TP_.w_len, TP_.w_n, TP_.w_at_, TP_.w_token, TP_.w_place, TP_.w_value, TP_.w_fault, TP_.w_fat])⟩ dX7_readPlainOne_131
      · skip
        have r_151 := lt_l (hi := 22) (nle h_16) (rg_all a2) rc_23 (by decide)
        refine g_aload_n C 0 dX7_readPlainOne_91 rfl rfl ?_
        refine g_iload_n C 3 dX7_readPlainOne_92 rfl rfl ?_
        refine g_iconst C (v := 0) dX7_readPlainOne_93 (by decide) ?_
        refine g_iconst C (v := 0) dX7_readPlainOne_94 (by decide) ?_
        refine g_callVI C K (c_X7_addStep W9 hLx hkx a2 0 0 (rg_w rc_0 (by decide) (by decide)) hU  (fun q => absurd q n_15)) hLx hkx (by decide) rfl v_7_63 rfl ⟨rfl, rfl⟩ ⟨Nat.le_of_ble_eq_true rfl, Nat.le_of_ble_eq_true rfl⟩ (Nat.le_of_ble_eq_true rfl) ⟨Nat.le_of_ble_eq_true rfl, Nat.le_of_ble_eq_true rfl⟩ dX7_readPlainOne_95 rfl (st := []) (fun x_152 I_153 J_154 h_155 => ?_)
        obtain ⟨hUI_153, hFI_153, hGJ_154, rx_152, fx_152⟩ := h_155
        have hF_156 := fq_tr hF hFI_153 (by decide)
        have hG_157 := fq_tr hG hGJ_154 (by decide)
        obtain ⟨s_159, hs_159⟩ : ∃ z, SPq I_153 J_154 x = z := ⟨_, rfl⟩
        have c_158 : fAddStep (s_11) = (x_152, s_159) := by have q := fx_152; simp only [esqx, hs_11, hs_159] at q; exact q.symm
        have hs_160 : TBq I_153 J_154 a1 b_1 b_2 b_3 = s_4 := (bq_fq wbqa1 hFI_153 hGJ_154 (by decide) (by decide)).trans hs_4
        have hs_161 : TPq I_153 J_154 a0 b_5 b_6 b_7 b_8 b_9 = s_10 := (tq_fq wtqa0 hFI_153 hGJ_154 (by decide) (by decide)).trans hs_10
        exact g_zret (ty := .boolean) (r := x_152) B K rfl (nar_z (rx_152)) ⟨hUI_153, hF_156, hG_157, rx_152, (by simp only [fPlain, fAnd2, fFailS, fCmp, ebqa1, hs_160, hs_4, etqa0, hs_161, hs_10, esqx, hs_159, hs_11, h_12, h_14, h_16, (nle h_16), c_158, if_true, if_false, bqM_pnm, bqM_par, bqM_dnm, bqM_persons, bqM_dishes, bqM_law, bqM_dogs, TB_.w_pnm, TB_.w_par, TB_.w_dnm, TB_.w_persons, TB_.w_dishes, TB_.w_law, TB_.w_dogs, sqM_sl, sqM_so, SP_.w_sl, SP_.w_so, tqM_by_, tqM_wd, tqM_tk, tqM_pl, tqM_vl, tqM_len, tqM_n, tqM_at_, tqM_token, tqM_place, tqM_value, tqM_fault, tqM_fat, TP_.w_by_, TP_.w_wd, TP_.w_tk, TP_.w_pl, TP_.w_vl, TP_.w_len, TP_.w_n, TP_.w_at_, TP_.w_token, TP_.w_place, TP_.w_value, TP_.w_fault, TP_.w_fat])⟩ dX7_readPlainOne_98
    · skip
      have r_162 := (⟨(eq_rg (h_14) rc_23).1, (eq_rg (h_14) rc_23).2⟩ : Rg 23 23 a2)
      refine g_aload_n C 1 dX7_readPlainOne_48 rfl rfl ?_
      refine g_aload_n C 2 dX7_readPlainOne_49 rfl rfl ?_
      refine g_aload_n C 1 dX7_readPlainOne_50 rfl rfl ?_
      obtain ⟨y_163, hy_163⟩ : ∃ z, J a0 10 = z := ⟨_, rfl⟩
      have f_164 : s_10.value = y_163 := (congrArg TP_.value hs_10).symm.trans hy_163
      refine g_getJ C K hLa0 hka0 f_7_79 (v := y_163) hy_163 dX7_readPlainOne_51 ?_
      refine g_callVI C K (c_X8_dishNamed W9 hLa1 hka1 y_163  hU) hLa1 hka1 (by decide) rfl v_7_93 rfl ⟨rfl, rfl⟩ ⟨Nat.le_of_ble_eq_true rfl, Nat.le_of_ble_eq_true rfl⟩ (Nat.le_of_ble_eq_true rfl) ⟨Nat.le_of_ble_eq_true rfl, Nat.le_of_ble_eq_true rfl⟩ dX7_readPlainOne_54 rfl (st := [.ref a0]) (fun x_165 I_166 J_167 h_168 => ?_)
      obtain ⟨rfl, rfl, rx_165, fx_165⟩ := h_168
      have c_169 : fDishNamed (y_163) (s_4) = x_165 := by have q := fx_165; simp only [ebqa1, hs_4] at q; exact q.symm
      refine g_callVI C K (c_X10_takeName W9 hLa0 hka0 x_165 (rg_w rx_165 (by decide) (by decide)) hU) hLa0 hka0 (by decide) rfl v_7_89 rfl ⟨rfl, rfl⟩ ⟨Nat.le_of_ble_eq_true rfl, Nat.le_of_ble_eq_true rfl⟩ (Nat.le_of_ble_eq_true rfl) ⟨Nat.le_of_ble_eq_true rfl, Nat.le_of_ble_eq_true rfl⟩ dX7_readPlainOne_57 rfl (st := []) (fun x_170 I_171 J_172 h_173 => ?_)
      obtain ⟨hUI_171, hFI_171, hGJ_172, rx_170, fx_170, ex_170⟩ := h_173
      have hF_174 := fq_tr hF hFI_171 (by decide)
      have hG_175 := fq_tr hG hGJ_172 (by decide)
      obtain ⟨s_177, hs_177⟩ : ∃ z, TPq I_171 J_172 a0 b_5 b_6 b_7 b_8 b_9 = z := ⟨_, rfl⟩
      have c_176 : fTakeName (x_165) (s_10) = (x_170, s_177) := by have q := fx_170; simp only [etqa0, hs_10, hs_177] at q; exact q.symm
      have hs_178 : TBq I_171 J_172 a1 b_1 b_2 b_3 = s_4 := (bq_fq wbqa1 hFI_171 hGJ_172 (by decide) (by decide)).trans hs_4
      have hs_179 : SPq I_171 J_172 x = s_11 := (sq_fq wsqx hFI_171 hGJ_172 (by decide) (by decide)).trans hs_11
      have r_180 : Rg (-1) 5 x_170 := rg_or ex_170 (rx_165) (by decide) (by decide)
      refine g_istore C dX7_readPlainOne_60 (by decide) (lo2 := [(4, .int x_170), (0, .ref x), (1, .ref a0), (2, .ref a1), (3, .int a2)]) rfl ?_
      refine g_iload C 0 dX7_readPlainOne_62 rfl ?_
      refine g_iconst C (v := (-1)) dX7_readPlainOne_64 (by decide) ?_
      refine g_icmp_eq C (tgt := 83) dX7_readPlainOne_65 (by decide) (fun h_181 => ?_) (fun h_181 => ?_)
      · skip
        have r_182 := (⟨(r_180).1, (eq_rg (h_181) rc_m1).2⟩ : Rg (-1) (-1) x_170)
        refine g_iconst C (v := 0) dX7_readPlainOne_83 (by decide) ?_
        exact g_zret (ty := .boolean) (r := 0) B K rfl (rfl) ⟨hUI_171, hF_174, hG_175, rg_w rc_0 (by decide) (by decide), (by simp only [fPlain, fAnd2, fFailS, fCmp, ebqa1, hs_178, hs_4, etqa0, hs_177, hs_10, esqx, hs_179, hs_11, h_12, (eq_true h_14), hy_163, f_164, c_169, c_176, (eq_true h_181), if_true, if_false, bqM_pnm, bqM_par, bqM_dnm, bqM_persons, bqM_dishes, bqM_law, bqM_dogs, TB_.w_pnm, TB_.w_par, TB_.w_dnm, TB_.w_persons, TB_.w_dishes, TB_.w_law, TB_.w_dogs, sqM_sl, sqM_so, SP_.w_sl, SP_.w_so, tqM_by_, tqM_wd, tqM_tk, tqM_pl, tqM_vl, tqM_len, tqM_n, tqM_at_, tqM_token, tqM_place, tqM_value, tqM_fault, tqM_fat, TP_.w_by_, TP_.w_wd, TP_.w_tk, TP_.w_pl, TP_.w_vl, TP_.w_len, TP_.w_n, TP_.w_at_, TP_.w_token, TP_.w_place, TP_.w_value, TP_.w_fault, TP_.w_fat])⟩ dX7_readPlainOne_84
      · skip
        have n_183 : ¬ x_170 = (-1) := h_181
        have r_184 := ne_lo (lo := 0) n_183 r_180 rc_m1 rfl (by decide)
        have r_185 := eq_rg (Eq.symm (Or.resolve_left ex_170 (rg_nek r_184 rc_m1 (by decide)))) r_184
        refine g_aload_n C 1 dX7_readPlainOne_68 rfl rfl ?_
        refine g_iload_n C 4 dX7_readPlainOne_69 rfl rfl ?_
        refine g_iconst C (v := 0) dX7_readPlainOne_70 (by decide) ?_
        refine g_iload C 0 dX7_readPlainOne_71 rfl ?_
        refine g_callVI C K (c_X7_addStep W9 hLx hkx a2 0 x_170 (rg_w rc_0 (by decide) (by decide)) hUI_171  (fun _ => r_184)) hLx hkx (by decide) rfl v_7_63 rfl ⟨rfl, rfl⟩ ⟨Nat.le_of_ble_eq_true rfl, Nat.le_of_ble_eq_true rfl⟩ (Nat.le_of_ble_eq_true rfl) ⟨Nat.le_of_ble_eq_true rfl, Nat.le_of_ble_eq_true rfl⟩ dX7_readPlainOne_73 rfl (st := []) (fun x_186 I_187 J_188 h_189 => ?_)
        obtain ⟨hUI_187, hFI_187, hGJ_188, rx_186, fx_186⟩ := h_189
        have hF_190 := fq_tr hF_174 hFI_187 (by decide)
        have hG_191 := fq_tr hG_175 hGJ_188 (by decide)
        obtain ⟨s_193, hs_193⟩ : ∃ z, SPq I_187 J_188 x = z := ⟨_, rfl⟩
        have c_192 : fAddStep (s_11) = (x_186, s_193) := by have q := fx_186; simp only [esqx, hs_179, hs_193] at q; exact q.symm
        have hs_194 : TBq I_187 J_188 a1 b_1 b_2 b_3 = s_4 := (bq_fq wbqa1 hFI_187 hGJ_188 (by decide) (by decide)).trans hs_178
        have hs_195 : TPq I_187 J_188 a0 b_5 b_6 b_7 b_8 b_9 = s_177 := (tq_fq wtqa0 hFI_187 hGJ_188 (by decide) (by decide)).trans hs_177
        refine g_if_eq C (tgt := 83) dX7_readPlainOne_76 (by decide) (fun h_196 => ?_) (fun h_196 => ?_)
        · skip
          have r_197 := (⟨(rx_186).1, (eq_rg (h_196) rc_0).2⟩ : Rg 0 0 x_186)
          refine g_iconst C (v := 0) dX7_readPlainOne_83 (by decide) ?_
          exact g_zret (ty := .boolean) (r := 0) B K rfl (rfl) ⟨hUI_187, hF_190, hG_191, rg_w rc_0 (by decide) (by decide), (by simp only [fPlain, fAnd2, fFailS, fCmp, ebqa1, hs_194, hs_4, etqa0, hs_195, hs_10, esqx, hs_193, hs_11, h_12, (eq_true h_14), hy_163, f_164, c_169, c_176, h_181, c_192, (eq_true h_196), if_true, if_false, bqM_pnm, bqM_par, bqM_dnm, bqM_persons, bqM_dishes, bqM_law, bqM_dogs, TB_.w_pnm, TB_.w_par, TB_.w_dnm, TB_.w_persons, TB_.w_dishes, TB_.w_law, TB_.w_dogs, sqM_sl, sqM_so, SP_.w_sl, SP_.w_so, tqM_by_, tqM_wd, tqM_tk, tqM_pl, tqM_vl, tqM_len, tqM_n, tqM_at_, tqM_token, tqM_place, tqM_value, tqM_fault, tqM_fat, TP_.w_by_, TP_.w_wd, TP_.w_tk, TP_.w_pl, TP_.w_vl, TP_.w_len, TP_.w_n, TP_.w_at_, TP_.w_token, TP_.w_place, TP_.w_value, TP_.w_fault, TP_.w_fat])⟩ dX7_readPlainOne_84
        · skip
          have n_198 : ¬ x_186 = 0 := h_196
          have r_199 := ne_lo (lo := 1) n_198 rx_186 rc_0 rfl (by decide)
          refine g_iconst C (v := 1) dX7_readPlainOne_79 (by decide) ?_
          refine g_goto C (tgt := 84) dX7_readPlainOne_80 (by decide) ?_
          exact g_zret (ty := .boolean) (r := 1) B K rfl (rfl) ⟨hUI_187, hF_190, hG_191, rg_w rc_1 (by decide) (by decide), (by simp only [fPlain, fAnd2, fFailS, fCmp, ebqa1, hs_194, hs_4, etqa0, hs_195, hs_10, esqx, hs_193, hs_11, h_12, (eq_true h_14), hy_163, f_164, c_169, c_176, h_181, c_192, h_196, if_true, if_false, bqM_pnm, bqM_par, bqM_dnm, bqM_persons, bqM_dishes, bqM_law, bqM_dogs, TB_.w_pnm, TB_.w_par, TB_.w_dnm, TB_.w_persons, TB_.w_dishes, TB_.w_law, TB_.w_dogs, sqM_sl, sqM_so, SP_.w_sl, SP_.w_so, tqM_by_, tqM_wd, tqM_tk, tqM_pl, tqM_vl, tqM_len, tqM_n, tqM_at_, tqM_token, tqM_place, tqM_value, tqM_fault, tqM_fat, TP_.w_by_, TP_.w_wd, TP_.w_tk, TP_.w_pl, TP_.w_vl, TP_.w_len, TP_.w_n, TP_.w_at_, TP_.w_token, TP_.w_place, TP_.w_value, TP_.w_fault, TP_.w_fat])⟩ dX7_readPlainOne_84
  · skip
    have r_200 := (⟨(eq_rg (h_12) rc_5).1, (eq_rg (h_12) rc_5).2⟩ : Rg 5 5 a2)
    refine g_aload_n C 1 dX7_readPlainOne_5 rfl rfl ?_
    refine g_aload_n C 2 dX7_readPlainOne_6 rfl rfl ?_
    refine g_aload_n C 1 dX7_readPlainOne_7 rfl rfl ?_
    obtain ⟨y_201, hy_201⟩ : ∃ z, J a0 10 = z := ⟨_, rfl⟩
    have f_202 : s_10.value = y_201 := (congrArg TP_.value hs_10).symm.trans hy_201
    refine g_getJ C K hLa0 hka0 f_7_79 (v := y_201) hy_201 dX7_readPlainOne_8 ?_
    refine g_callVI C K (c_X8_personNamed W9 hLa1 hka1 y_201  hU) hLa1 hka1 (by decide) rfl v_7_83 rfl ⟨rfl, rfl⟩ ⟨Nat.le_of_ble_eq_true rfl, Nat.le_of_ble_eq_true rfl⟩ (Nat.le_of_ble_eq_true rfl) ⟨Nat.le_of_ble_eq_true rfl, Nat.le_of_ble_eq_true rfl⟩ dX7_readPlainOne_11 rfl (st := [.ref a0]) (fun x_203 I_204 J_205 h_206 => ?_)
    obtain ⟨rfl, rfl, rx_203, fx_203⟩ := h_206
    have c_207 : fPersonNamed (y_201) (s_4) = x_203 := by have q := fx_203; simp only [ebqa1, hs_4] at q; exact q.symm
    refine g_callVI C K (c_X10_takeName W9 hLa0 hka0 x_203 (rx_203) hU) hLa0 hka0 (by decide) rfl v_7_89 rfl ⟨rfl, rfl⟩ ⟨Nat.le_of_ble_eq_true rfl, Nat.le_of_ble_eq_true rfl⟩ (Nat.le_of_ble_eq_true rfl) ⟨Nat.le_of_ble_eq_true rfl, Nat.le_of_ble_eq_true rfl⟩ dX7_readPlainOne_14 rfl (st := []) (fun x_208 I_209 J_210 h_211 => ?_)
    obtain ⟨hUI_209, hFI_209, hGJ_210, rx_208, fx_208, ex_208⟩ := h_211
    have hF_212 := fq_tr hF hFI_209 (by decide)
    have hG_213 := fq_tr hG hGJ_210 (by decide)
    obtain ⟨s_215, hs_215⟩ : ∃ z, TPq I_209 J_210 a0 b_5 b_6 b_7 b_8 b_9 = z := ⟨_, rfl⟩
    have c_214 : fTakeName (x_203) (s_10) = (x_208, s_215) := by have q := fx_208; simp only [etqa0, hs_10, hs_215] at q; exact q.symm
    have hs_216 : TBq I_209 J_210 a1 b_1 b_2 b_3 = s_4 := (bq_fq wbqa1 hFI_209 hGJ_210 (by decide) (by decide)).trans hs_4
    have hs_217 : SPq I_209 J_210 x = s_11 := (sq_fq wsqx hFI_209 hGJ_210 (by decide) (by decide)).trans hs_11
    have r_218 : Rg (-1) 6 x_208 := rg_or ex_208 (rx_203) (by decide) (by decide)
    refine g_istore C dX7_readPlainOne_17 (by decide) (lo2 := [(4, .int x_208), (0, .ref x), (1, .ref a0), (2, .ref a1), (3, .int a2)]) rfl ?_
    refine g_iload C 0 dX7_readPlainOne_19 rfl ?_
    refine g_iconst C (v := (-1)) dX7_readPlainOne_21 (by decide) ?_
    refine g_icmp_eq C (tgt := 40) dX7_readPlainOne_22 (by decide) (fun h_219 => ?_) (fun h_219 => ?_)
    · skip
      have r_220 := (⟨(r_218).1, (eq_rg (h_219) rc_m1).2⟩ : Rg (-1) (-1) x_208)
      refine g_iconst C (v := 0) dX7_readPlainOne_40 (by decide) ?_
      exact g_zret (ty := .boolean) (r := 0) B K rfl (rfl) ⟨hUI_209, hF_212, hG_213, rg_w rc_0 (by decide) (by decide), (by simp only [fPlain, fAnd2, fFailS, fCmp, ebqa1, hs_216, hs_4, etqa0, hs_215, hs_10, esqx, hs_217, hs_11, (eq_true h_12), hy_201, f_202, c_207, c_214, (eq_true h_219), if_true, if_false, bqM_pnm, bqM_par, bqM_dnm, bqM_persons, bqM_dishes, bqM_law, bqM_dogs, TB_.w_pnm, TB_.w_par, TB_.w_dnm, TB_.w_persons, TB_.w_dishes, TB_.w_law, TB_.w_dogs, sqM_sl, sqM_so, SP_.w_sl, SP_.w_so, tqM_by_, tqM_wd, tqM_tk, tqM_pl, tqM_vl, tqM_len, tqM_n, tqM_at_, tqM_token, tqM_place, tqM_value, tqM_fault, tqM_fat, TP_.w_by_, TP_.w_wd, TP_.w_tk, TP_.w_pl, TP_.w_vl, TP_.w_len, TP_.w_n, TP_.w_at_, TP_.w_token, TP_.w_place, TP_.w_value, TP_.w_fault, TP_.w_fat])⟩ dX7_readPlainOne_41
    · skip
      have n_221 : ¬ x_208 = (-1) := h_219
      have r_222 := ne_lo (lo := 0) n_221 r_218 rc_m1 rfl (by decide)
      have r_223 := eq_rg (Eq.symm (Or.resolve_left ex_208 (rg_nek r_222 rc_m1 (by decide)))) r_222
      refine g_aload_n C 1 dX7_readPlainOne_25 rfl rfl ?_
      refine g_iload_n C 4 dX7_readPlainOne_26 rfl rfl ?_
      refine g_iconst C (v := 0) dX7_readPlainOne_27 (by decide) ?_
      refine g_iload C 0 dX7_readPlainOne_28 rfl ?_
      refine g_callVI C K (c_X7_addStep W9 hLx hkx a2 0 x_208 (rg_w rc_0 (by decide) (by decide)) hUI_209  (fun q => absurd q (rg_nek r_200 rc_23 (by decide)))) hLx hkx (by decide) rfl v_7_63 rfl ⟨rfl, rfl⟩ ⟨Nat.le_of_ble_eq_true rfl, Nat.le_of_ble_eq_true rfl⟩ (Nat.le_of_ble_eq_true rfl) ⟨Nat.le_of_ble_eq_true rfl, Nat.le_of_ble_eq_true rfl⟩ dX7_readPlainOne_30 rfl (st := []) (fun x_224 I_225 J_226 h_227 => ?_)
      obtain ⟨hUI_225, hFI_225, hGJ_226, rx_224, fx_224⟩ := h_227
      have hF_228 := fq_tr hF_212 hFI_225 (by decide)
      have hG_229 := fq_tr hG_213 hGJ_226 (by decide)
      obtain ⟨s_231, hs_231⟩ : ∃ z, SPq I_225 J_226 x = z := ⟨_, rfl⟩
      have c_230 : fAddStep (s_11) = (x_224, s_231) := by have q := fx_224; simp only [esqx, hs_217, hs_231] at q; exact q.symm
      have hs_232 : TBq I_225 J_226 a1 b_1 b_2 b_3 = s_4 := (bq_fq wbqa1 hFI_225 hGJ_226 (by decide) (by decide)).trans hs_216
      have hs_233 : TPq I_225 J_226 a0 b_5 b_6 b_7 b_8 b_9 = s_215 := (tq_fq wtqa0 hFI_225 hGJ_226 (by decide) (by decide)).trans hs_215
      refine g_if_eq C (tgt := 40) dX7_readPlainOne_33 (by decide) (fun h_234 => ?_) (fun h_234 => ?_)
      · skip
        have r_235 := (⟨(rx_224).1, (eq_rg (h_234) rc_0).2⟩ : Rg 0 0 x_224)
        refine g_iconst C (v := 0) dX7_readPlainOne_40 (by decide) ?_
        exact g_zret (ty := .boolean) (r := 0) B K rfl (rfl) ⟨hUI_225, hF_228, hG_229, rg_w rc_0 (by decide) (by decide), (by simp only [fPlain, fAnd2, fFailS, fCmp, ebqa1, hs_232, hs_4, etqa0, hs_233, hs_10, esqx, hs_231, hs_11, (eq_true h_12), hy_201, f_202, c_207, c_214, h_219, c_230, (eq_true h_234), if_true, if_false, bqM_pnm, bqM_par, bqM_dnm, bqM_persons, bqM_dishes, bqM_law, bqM_dogs, TB_.w_pnm, TB_.w_par, TB_.w_dnm, TB_.w_persons, TB_.w_dishes, TB_.w_law, TB_.w_dogs, sqM_sl, sqM_so, SP_.w_sl, SP_.w_so, tqM_by_, tqM_wd, tqM_tk, tqM_pl, tqM_vl, tqM_len, tqM_n, tqM_at_, tqM_token, tqM_place, tqM_value, tqM_fault, tqM_fat, TP_.w_by_, TP_.w_wd, TP_.w_tk, TP_.w_pl, TP_.w_vl, TP_.w_len, TP_.w_n, TP_.w_at_, TP_.w_token, TP_.w_place, TP_.w_value, TP_.w_fault, TP_.w_fat])⟩ dX7_readPlainOne_41
      · skip
        have n_236 : ¬ x_224 = 0 := h_234
        have r_237 := ne_lo (lo := 1) n_236 rx_224 rc_0 rfl (by decide)
        refine g_iconst C (v := 1) dX7_readPlainOne_36 (by decide) ?_
        refine g_goto C (tgt := 41) dX7_readPlainOne_37 (by decide) ?_
        exact g_zret (ty := .boolean) (r := 1) B K rfl (rfl) ⟨hUI_225, hF_228, hG_229, rg_w rc_1 (by decide) (by decide), (by simp only [fPlain, fAnd2, fFailS, fCmp, ebqa1, hs_232, hs_4, etqa0, hs_233, hs_10, esqx, hs_231, hs_11, (eq_true h_12), hy_201, f_202, c_207, c_214, h_219, c_230, h_234, if_true, if_false, bqM_pnm, bqM_par, bqM_dnm, bqM_persons, bqM_dishes, bqM_law, bqM_dogs, TB_.w_pnm, TB_.w_par, TB_.w_dnm, TB_.w_persons, TB_.w_dishes, TB_.w_law, TB_.w_dogs, sqM_sl, sqM_so, SP_.w_sl, SP_.w_so, tqM_by_, tqM_wd, tqM_tk, tqM_pl, tqM_vl, tqM_len, tqM_n, tqM_at_, tqM_token, tqM_place, tqM_value, tqM_fault, tqM_fat, TP_.w_by_, TP_.w_wd, TP_.w_tk, TP_.w_pl, TP_.w_vl, TP_.w_len, TP_.w_n, TP_.w_at_, TP_.w_token, TP_.w_place, TP_.w_value, TP_.w_fault, TP_.w_fat])⟩ dX7_readPlainOne_41
set_option maxRecDepth 100000 in
set_option maxHeartbeats 8000000 in
theorem c_X7_readOne_8 {l : Launch} {D : va_G} {cy : Nat → ClassId} {L : List Nat} {κ ln : Nat → Nat} {R : Nat → Nat → Option Nat} {I : Nat → Nat → Int32} {J : Nat → Nat → Int64} {ow : Nat → Nat × Nat} (W9 : ∀ a ∈ L, Shp L κ ln R ow a) {x : Nat} (hLx : x ∈ L) (hkx : κ x = 7) {a0 : Nat} (hLa0 : a0 ∈ L) (hka0 : κ a0 = 10) {a1 : Nat} (hLa1 : a1 ∈ L) (hka1 : κ a1 = 8) (a2 : Int32) (ra2 : Rg 8 8 a2) (hU : Iv L κ R ow I) : CtI l yX7_readOne cX7_readOne 5 (some .boolean) { frames := 4, cells := 0, slots := 0, locals := 95 } D cy L κ ln R I J [.ref x, .ref a0, .ref a1, .int a2] (fun r I2 J2 => Iv L κ R ow I2 ∧ Fq L κ ow [704, 705, 1007, 1008, 1009, 1011, 1012, 52000, 52100, 52200] I I2 ∧ Fq L κ ow [1010] J J2 ∧ Rg 0 1 r ∧ ((r, TPf R I2 J2 a0, SPf R I2 J2 x) = fOne 1 (TBf R I J a1) (TPf R I J a0) (SPf R I J x))) := by
  refine CtI.of (by decide +kernel) (Nat.le_of_ble_eq_true rfl) ?_
  intro p e s m below meth c B K
  have C := B.1
  have hF : Fq L κ ow [704, 705, 1007, 1008, 1009, 1011, 1012, 52000, 52100, 52200] I I := fq_rf
  have hG : Fq L κ ow [1010] J J := fq_rf
  obtain ⟨b_1, hb_1, hb_1L, hb_1k, hb_1n, hb_1o⟩ := shp_a (W9 a1 hLa1) hka1 0 15 7 rfl (by decide)
  obtain ⟨b_2, hb_2, hb_2L, hb_2k, hb_2n, hb_2o⟩ := shp_a (W9 a1 hLa1) hka1 2 14 7 rfl (by decide)
  obtain ⟨b_3, hb_3, hb_3L, hb_3k, hb_3n, hb_3o⟩ := shp_a (W9 a1 hLa1) hka1 3 15 6 rfl (by decide)
  have ebqa1 : ∀ I J, TBf R I J a1 = TBq I J a1 b_1 b_2 b_3 := fun I J => by simp only [TBf, rr_, Option.getD_some, hb_1, hb_2, hb_3]
  have wbqa1 : bqw_ L κ ow a1 b_1 b_2 b_3 := ⟨⟨hLa1, hb_1L, hb_2L, hb_3L⟩, ⟨(ro_o hka1 (by decide)), (ro_a hb_1k (by decide) hb_1o hka1 rfl), (ro_a hb_2k (by decide) hb_2o hka1 rfl), (ro_a hb_3k (by decide) hb_3o hka1 rfl)⟩⟩
  obtain ⟨s_4, hs_4⟩ : ∃ z, TBq I J a1 b_1 b_2 b_3 = z := ⟨_, rfl⟩
  obtain ⟨b_5, hb_5, hb_5L, hb_5k, hb_5n, hb_5o⟩ := shp_a (W9 a0 hLa0) hka0 0 13 940 rfl (by decide)
  obtain ⟨b_6, hb_6, hb_6L, hb_6k, hb_6n, hb_6o⟩ := shp_a (W9 a0 hLa0) hka0 1 15 28 rfl (by decide)
  obtain ⟨b_7, hb_7, hb_7L, hb_7k, hb_7n, hb_7o⟩ := shp_a (W9 a0 hLa0) hka0 2 14 901 rfl (by decide)
  obtain ⟨b_8, hb_8, hb_8L, hb_8k, hb_8n, hb_8o⟩ := shp_a (W9 a0 hLa0) hka0 3 14 901 rfl (by decide)
  obtain ⟨b_9, hb_9, hb_9L, hb_9k, hb_9n, hb_9o⟩ := shp_a (W9 a0 hLa0) hka0 4 15 901 rfl (by decide)
  have etqa0 : ∀ I J, TPf R I J a0 = TPq I J a0 b_5 b_6 b_7 b_8 b_9 := fun I J => by simp only [TPf, rr_, Option.getD_some, hb_5, hb_6, hb_7, hb_8, hb_9]
  have wtqa0 : tqw_ L κ ow a0 b_5 b_6 b_7 b_8 b_9 := ⟨⟨hLa0, hb_5L, hb_6L, hb_7L, hb_8L, hb_9L⟩, ⟨(ro_o hka0 (by decide)), (ro_a hb_5k (by decide) hb_5o hka0 rfl), (ro_a hb_6k (by decide) hb_6o hka0 rfl), (ro_a hb_7k (by decide) hb_7o hka0 rfl), (ro_a hb_8k (by decide) hb_8o hka0 rfl), (ro_a hb_9k (by decide) hb_9o hka0 rfl)⟩⟩
  obtain ⟨s_10, hs_10⟩ : ∃ z, TPq I J a0 b_5 b_6 b_7 b_8 b_9 = z := ⟨_, rfl⟩
  have esqx : ∀ I J, SPf R I J x = SPq I J x := fun I J => by simp only [SPf, rr_, Option.getD_some]
  have wsqx : sqw_ L κ ow x := ⟨hLx, (ro_o hkx (by decide))⟩
  obtain ⟨s_11, hs_11⟩ : ∃ z, SPq I J x = z := ⟨_, rfl⟩
  refine g_lo (is := [0, 1, 2, 3]) (lo2 := [(0, .ref x), (1, .ref a0), (2, .ref a1), (3, .int a2)]) rfl ?_
  refine g_aload_n C 1 dX7_readOne_0 rfl rfl ?_
  obtain ⟨x_12, hx_12, rx_12⟩ := ex_get (I := I) (a := a0) (j := 8) (lo := (-2147483648)) (hi := 2147483647) hU.1 hLa0 (ro_o hka0 (by decide)) rfl
  have f_13 : s_10.token = x_12 := (congrArg TP_.token hs_10).symm.trans hx_12
  refine g_getI C K hLa0 hka0 f_7_57 (v := x_12) hx_12 dX7_readOne_1 ?_
  refine g_istore C dX7_readOne_4 (by decide) (lo2 := [(4, .int x_12), (0, .ref x), (1, .ref a0), (2, .ref a1), (3, .int a2)]) rfl ?_
  refine g_iload C 0 dX7_readOne_6 rfl ?_
  refine g_callSI C K (c_X7_beginsOne W9 x_12  hU) s_7_70 rfl ⟨rfl, rfl⟩ ⟨Nat.le_of_ble_eq_true rfl, Nat.le_of_ble_eq_true rfl⟩ (Nat.le_of_ble_eq_true rfl) ⟨Nat.le_of_ble_eq_true rfl, Nat.le_of_ble_eq_true rfl⟩ dX7_readOne_8 rfl (st := []) (fun x_14 I_15 J_16 h_17 => ?_)
  obtain ⟨rfl, rfl, rx_14, fx_14⟩ := h_17
  have c_18 : fBegOne (x_12) = x_14 := fx_14.symm
  refine g_if_ne C (tgt := 20) dX7_readOne_11 (by decide) (fun h_19 => ?_) (fun h_19 => ?_)
  · skip
    have n_20 : ¬ x_14 = 0 := h_19
    have r_21 := ne_lo (lo := 1) n_20 rx_14 rc_0 rfl (by decide)
    refine g_aload_n C 1 dX7_readOne_20 rfl rfl ?_
    obtain ⟨x_22, hx_22, rx_22⟩ := ex_get (I := I) (a := x) (j := 5) (lo := (-2147483648)) (hi := 2147483647) hU.1 hLx (ro_o hkx (by decide)) rfl
    have f_23 : s_11.so = x_22 := (congrArg SP_.so hs_11).symm.trans hx_22
    refine g_getI C K hLx hkx f_7_28 (v := x_22) hx_22 dX7_readOne_21 ?_
    refine g_bipush C (v := 20) dX7_readOne_24 (by decide) ?_
    refine g_icmp_ge C (tgt := 35) dX7_readOne_26 (by decide) (fun h_24 => ?_) (fun h_24 => ?_)
    · skip
      have r_25 := le_r (h_24) rc_20 rx_22
      refine g_aload_n C 2 dX7_readOne_35 rfl rfl ?_
      refine g_iconst C (v := 4) dX7_readOne_36 (by decide) ?_
      refine g_callVI C K (c_X10_fail W9 hLa0 hka0 4 (rg_w rc_4 (by decide) (by decide)) hU) hLa0 hka0 (by decide) rfl v_7_73 rfl ⟨rfl, rfl⟩ ⟨Nat.le_of_ble_eq_true rfl, Nat.le_of_ble_eq_true rfl⟩ (Nat.le_of_ble_eq_true rfl) ⟨Nat.le_of_ble_eq_true rfl, Nat.le_of_ble_eq_true rfl⟩ dX7_readOne_37 rfl (st := []) (fun x_26 I_27 J_28 h_29 => ?_)
      obtain ⟨hUI_27, hFI_27, hGJ_28, rx_26, fx_26⟩ := h_29
      have hF_30 := fq_tr hF hFI_27 (by decide)
      have hG_31 := fq_tr hG hGJ_28 (by decide)
      obtain ⟨s_33, hs_33⟩ : ∃ z, TPq I_27 J_28 a0 b_5 b_6 b_7 b_8 b_9 = z := ⟨_, rfl⟩
      have c_32 : fFail (4) (s_10) = (x_26, s_33) := by have q := fx_26; simp only [etqa0, hs_10, hs_33] at q; exact q.symm
      have hs_34 : TBq I_27 J_28 a1 b_1 b_2 b_3 = s_4 := (bq_fq wbqa1 hFI_27 hGJ_28 (by decide) (by decide)).trans hs_4
      have hs_35 : SPq I_27 J_28 x = s_11 := (sq_fq wsqx hFI_27 hGJ_28 (by decide) (by decide)).trans hs_11
      exact g_zret (ty := .boolean) (r := x_26) B K rfl (nar_z (rg_w rx_26 (by decide) (by decide))) ⟨hUI_27, hF_30, hG_31, rg_w rx_26 (by decide) (by decide), (by simp only [fOne_k1, fAnd2, fFailS, fCmp, ebqa1, hs_34, hs_4, etqa0, hs_33, hs_10, esqx, hs_35, hs_11, hx_12, f_13, c_18, h_19, hx_22, f_23, h_24, c_32, if_true, if_false, bqM_pnm, bqM_par, bqM_dnm, bqM_persons, bqM_dishes, bqM_law, bqM_dogs, TB_.w_pnm, TB_.w_par, TB_.w_dnm, TB_.w_persons, TB_.w_dishes, TB_.w_law, TB_.w_dogs, sqM_sl, sqM_so, SP_.w_sl, SP_.w_so, tqM_by_, tqM_wd, tqM_tk, tqM_pl, tqM_vl, tqM_len, tqM_n, tqM_at_, tqM_token, tqM_place, tqM_value, tqM_fault, tqM_fat, TP_.w_by_, TP_.w_wd, TP_.w_tk, TP_.w_pl, TP_.w_vl, TP_.w_len, TP_.w_n, TP_.w_at_, TP_.w_token, TP_.w_place, TP_.w_value, TP_.w_fault, TP_.w_fat])⟩ dX7_readOne_40
    · skip
      have r_36 := lt_l (hi := 19) (nle h_24) rx_22 rc_20 (by decide)
      refine g_iload_n C 4 dX7_readOne_29 rfl rfl ?_
      refine g_bipush C (v := 8) dX7_readOne_30 (by decide) ?_
      refine g_icmp_le C (tgt := 41) dX7_readOne_32 (by decide) (fun h_37 => ?_) (fun h_37 => ?_)
      · skip
        refine g_aload_n C 1 dX7_readOne_41 rfl rfl ?_
        refine g_dup C dX7_readOne_42 rfl ?_
        refine g_getI C K hLx hkx f_7_28 (v := x_22) hx_22 dX7_readOne_43 ?_
        refine g_iconst C (v := 1) dX7_readOne_46 (by decide) ?_
        obtain ⟨x_38, hx_38, rx_38, tx_38⟩ := ex_add (-2147483647) 20 r_36 rc_1 (by decide) (by decide) (by decide) (by decide)
        refine g_iadd C (v := x_38) dX7_readOne_47 hx_38 ?_
        refine h_putI C K hLx hkx f_7_28 p_7_5 dX7_readOne_48 (fun I_39 hI_39 => ?_)
        have hU_40 := iv_put W9 hU hI_39 (ro_o hkx (by decide)) (lo := (-2147483648)) (hi := 2147483647) (rfl) (rg_all _) rfl
        have hF_41 := fq_puto hF hI_39 hkx (by decide) (by decide)
        have hs_42 : TBq I_39 J a1 b_1 b_2 b_3 = s_4 := by rw [hI_39]; exact (bq_oI wbqa1 (ro_o hkx (by decide)) (by decide)).trans hs_4
        have hs_43 : TPq I_39 J a0 b_5 b_6 b_7 b_8 b_9 = s_10 := by rw [hI_39]; exact (tq_oI wtqa0 (ro_o hkx (by decide)) (by decide)).trans hs_10
        have hs_44 : SPq I_39 J x = (SP_.w_so s_11 (x_38)) := by rw [hI_39]; exact ((sq_so wsqx).trans (congrArg (fun z : SP_ => SP_.w_so z (x_38)) hs_11)).trans rfl
        refine g_aload_n C 2 dX7_readOne_51 rfl rfl ?_
        refine g_callVV C K (c_X10_advance W9 hLa0 hka0   hU_40) hLa0 hka0 (by decide) rfl v_7_60 rfl ⟨rfl, rfl⟩ ⟨Nat.le_of_ble_eq_true rfl, Nat.le_of_ble_eq_true rfl⟩ (Nat.le_of_ble_eq_true rfl) ⟨Nat.le_of_ble_eq_true rfl, Nat.le_of_ble_eq_true rfl⟩ dX7_readOne_52 rfl (st := []) (fun I_46 J_47 h_48 => ?_)
        obtain ⟨hUI_46, hFI_46, hGJ_47, fx_45⟩ := h_48
        have hF_49 := fq_tr hF_41 hFI_46 (by decide)
        have hG_50 := fq_tr hG hGJ_47 (by decide)
        obtain ⟨s_52, hs_52⟩ : ∃ z, TPq I_46 J_47 a0 b_5 b_6 b_7 b_8 b_9 = z := ⟨_, rfl⟩
        have c_51 : fAdvance (s_10) = s_52 := by have q := fx_45; simp only [etqa0, hs_43, hs_52] at q; exact q.symm
        have hs_53 : TBq I_46 J_47 a1 b_1 b_2 b_3 = s_4 := (bq_fq wbqa1 hFI_46 hGJ_47 (by decide) (by decide)).trans hs_42
        have hs_54 : SPq I_46 J_47 x = (SP_.w_so s_11 (x_38)) := (sq_fq wsqx hFI_46 hGJ_47 (by decide) (by decide)).trans hs_44
        refine g_iload C 0 dX7_readOne_55 rfl ?_
        refine g_bipush C (v := 40) dX7_readOne_57 (by decide) ?_
        refine g_icmp_ne C (tgt := 89) dX7_readOne_59 (by decide) (fun h_55 => ?_) (fun h_55 => ?_)
        · skip
          have n_56 : ¬ x_12 = 40 := h_55
          refine g_iload C 0 dX7_readOne_89 rfl ?_
          refine g_bipush C (v := 19) dX7_readOne_91 (by decide) ?_
          refine g_icmp_ne C (tgt := 125) dX7_readOne_93 (by decide) (fun h_57 => ?_) (fun h_57 => ?_)
          · skip
            have n_58 : ¬ x_12 = 19 := h_57
            refine g_aload_n C 1 dX7_readOne_125 rfl rfl ?_
            refine g_aload_n C 2 dX7_readOne_126 rfl rfl ?_
            refine g_aload_n C 3 dX7_readOne_127 rfl rfl ?_
            refine g_iload C 0 dX7_readOne_128 rfl ?_
            refine g_callVI C K (c_X7_readPlainOne W9 hLx hkx hLa0 hka0 hLa1 hka1 x_12  hUI_46) hLx hkx (by decide) rfl v_7_76 rfl ⟨rfl, rfl⟩ ⟨Nat.le_of_ble_eq_true rfl, Nat.le_of_ble_eq_true rfl⟩ (Nat.le_of_ble_eq_true rfl) ⟨Nat.le_of_ble_eq_true rfl, Nat.le_of_ble_eq_true rfl⟩ dX7_readOne_130 rfl (st := []) (fun x_59 I_60 J_61 h_62 => ?_)
            obtain ⟨hUI_60, hFI_60, hGJ_61, rx_59, fx_59⟩ := h_62
            have hF_63 := fq_tr hF_49 hFI_60 (by decide)
            have hG_64 := fq_tr hG_50 hGJ_61 (by decide)
            obtain ⟨s_66, hs_66⟩ : ∃ z, TPq I_60 J_61 a0 b_5 b_6 b_7 b_8 b_9 = z := ⟨_, rfl⟩
            obtain ⟨s_67, hs_67⟩ : ∃ z, SPq I_60 J_61 x = z := ⟨_, rfl⟩
            have c_65 : fPlain (x_12) (s_4) (s_52) ((SP_.w_so s_11 (x_38))) = (x_59, s_66, s_67) := by have q := fx_59; simp only [ebqa1, etqa0, esqx, hs_53, hs_52, hs_54, hs_66, hs_67] at q; exact q.symm
            have hs_68 : TBq I_60 J_61 a1 b_1 b_2 b_3 = s_4 := (bq_fq wbqa1 hFI_60 hGJ_61 (by decide) (by decide)).trans hs_53
            exact g_zret (ty := .boolean) (r := x_59) B K rfl (nar_z (rx_59)) ⟨hUI_60, hF_63, hG_64, rx_59, (by (try simp only [hx_12, f_13, c_18, h_19, hx_22, f_23, h_24, (nle h_24), h_37, hx_38, c_51, h_55, h_57, if_true, if_false, bqM_pnm, bqM_par, bqM_dnm, bqM_persons, bqM_dishes, bqM_law, bqM_dogs, TB_.w_pnm, TB_.w_par, TB_.w_dnm, TB_.w_persons, TB_.w_dishes, TB_.w_law, TB_.w_dogs, sqM_sl, sqM_so, SP_.w_sl, SP_.w_so, tqM_by_, tqM_wd, tqM_tk, tqM_pl, tqM_vl, tqM_len, tqM_n, tqM_at_, tqM_token, tqM_place, tqM_value, tqM_fault, tqM_fat, TP_.w_by_, TP_.w_wd, TP_.w_tk, TP_.w_pl, TP_.w_vl, TP_.w_len, TP_.w_n, TP_.w_at_, TP_.w_token, TP_.w_place, TP_.w_value, TP_.w_fault, TP_.w_fat] at c_65); simp only [fOne_k1, fAnd2, fFailS, fCmp, ebqa1, hs_68, hs_4, etqa0, hs_66, hs_10, esqx, hs_67, hs_11, hx_12, f_13, c_18, h_19, hx_22, f_23, h_24, (nle h_24), h_37, hx_38, c_51, h_55, h_57, c_65, if_true, if_false, bqM_pnm, bqM_par, bqM_dnm, bqM_persons, bqM_dishes, bqM_law, bqM_dogs, TB_.w_pnm, TB_.w_par, TB_.w_dnm, TB_.w_persons, TB_.w_dishes, TB_.w_law, TB_.w_dogs, sqM_sl, sqM_so, SP_.w_sl, SP_.w_so, tqM_by_, tqM_wd, tqM_tk, tqM_pl, tqM_vl, tqM_len, tqM_n, tqM_at_, tqM_token, tqM_place, tqM_value, tqM_fault, tqM_fat, TP_.w_by_, TP_.w_wd, TP_.w_tk, TP_.w_pl, TP_.w_vl, TP_.w_len, TP_.w_n, TP_.w_at_, TP_.w_token, TP_.w_place, TP_.w_value, TP_.w_fault, TP_.w_fat])⟩ dX7_readOne_133
          · skip
            have r_69 := (⟨(eq_rg (h_57) rc_19).1, (eq_rg (h_57) rc_19).2⟩ : Rg 19 19 x_12)
            refine g_aload_n C 1 dX7_readOne_96 rfl rfl ?_
            refine g_aload_n C 2 dX7_readOne_97 rfl rfl ?_
            refine g_aload_n C 3 dX7_readOne_98 rfl rfl ?_
            refine g_iload_n C 4 dX7_readOne_99 rfl rfl ?_
            refine g_iconst C (v := 1) dX7_readOne_100 (by decide) ?_
            obtain ⟨x_70, hx_70, rx_70, tx_70⟩ := ex_add 9 9 ra2 rc_1 (by decide) (by decide) (by decide) (by decide)
            refine g_iadd C (v := x_70) dX7_readOne_101 hx_70 ?_
            refine g_callVI C K (c_X7_readOne_9 W9 hLx hkx hLa0 hka0 hLa1 hka1 x_70 (rx_70) hUI_46) hLx hkx (by decide) rfl v_7_67 rfl ⟨rfl, rfl⟩ ⟨Nat.le_of_ble_eq_true rfl, Nat.le_of_ble_eq_true rfl⟩ (Nat.le_of_ble_eq_true rfl) ⟨Nat.le_of_ble_eq_true rfl, Nat.le_of_ble_eq_true rfl⟩ dX7_readOne_102 rfl (st := []) (fun x_71 I_72 J_73 h_74 => ?_)
            obtain ⟨hUI_72, hFI_72, hGJ_73, rx_71, fx_71⟩ := h_74
            have hF_75 := fq_tr hF_49 hFI_72 (by decide)
            have hG_76 := fq_tr hG_50 hGJ_73 (by decide)
            obtain ⟨s_78, hs_78⟩ : ∃ z, TPq I_72 J_73 a0 b_5 b_6 b_7 b_8 b_9 = z := ⟨_, rfl⟩
            obtain ⟨s_79, hs_79⟩ : ∃ z, SPq I_72 J_73 x = z := ⟨_, rfl⟩
            have c_77 : fOne 0 (s_4) (s_52) ((SP_.w_so s_11 (x_38))) = (x_71, s_78, s_79) := by have q := fx_71; simp only [ebqa1, etqa0, esqx, hs_53, hs_52, hs_54, hs_78, hs_79] at q; exact q.symm
            have hs_80 : TBq I_72 J_73 a1 b_1 b_2 b_3 = s_4 := (bq_fq wbqa1 hFI_72 hGJ_73 (by decide) (by decide)).trans hs_53
            refine g_if_eq C (tgt := 123) dX7_readOne_105 (by decide) (fun h_81 => ?_) (fun h_81 => ?_)
            · skip
              refine g_iconst C (v := 0) dX7_readOne_123 (by decide) ?_
              exact g_zret (ty := .boolean) (r := 0) B K rfl (rfl) ⟨hUI_72, hF_75, hG_76, rg_w rc_0 (by decide) (by decide), (by (try simp only [hx_12, f_13, c_18, h_19, hx_22, f_23, h_24, (nle h_24), h_37, hx_38, c_51, h_55, (eq_true h_57), hx_70, (eq_true h_81), if_true, if_false, bqM_pnm, bqM_par, bqM_dnm, bqM_persons, bqM_dishes, bqM_law, bqM_dogs, TB_.w_pnm, TB_.w_par, TB_.w_dnm, TB_.w_persons, TB_.w_dishes, TB_.w_law, TB_.w_dogs, sqM_sl, sqM_so, SP_.w_sl, SP_.w_so, tqM_by_, tqM_wd, tqM_tk, tqM_pl, tqM_vl, tqM_len, tqM_n, tqM_at_, tqM_token, tqM_place, tqM_value, tqM_fault, tqM_fat, TP_.w_by_, TP_.w_wd, TP_.w_tk, TP_.w_pl, TP_.w_vl, TP_.w_len, TP_.w_n, TP_.w_at_, TP_.w_token, TP_.w_place, TP_.w_value, TP_.w_fault, TP_.w_fat] at c_77); simp only [fOne_k1, fAnd2, fFailS, fCmp, ebqa1, hs_80, hs_4, etqa0, hs_78, hs_10, esqx, hs_79, hs_11, hx_12, f_13, c_18, h_19, hx_22, f_23, h_24, (nle h_24), h_37, hx_38, c_51, h_55, (eq_true h_57), hx_70, c_77, (eq_true h_81), if_true, if_false, bqM_pnm, bqM_par, bqM_dnm, bqM_persons, bqM_dishes, bqM_law, bqM_dogs, TB_.w_pnm, TB_.w_par, TB_.w_dnm, TB_.w_persons, TB_.w_dishes, TB_.w_law, TB_.w_dogs, sqM_sl, sqM_so, SP_.w_sl, SP_.w_so, tqM_by_, tqM_wd, tqM_tk, tqM_pl, tqM_vl, tqM_len, tqM_n, tqM_at_, tqM_token, tqM_place, tqM_value, tqM_fault, tqM_fat, TP_.w_by_, TP_.w_wd, TP_.w_tk, TP_.w_pl, TP_.w_vl, TP_.w_len, TP_.w_n, TP_.w_at_, TP_.w_token, TP_.w_place, TP_.w_value, TP_.w_fault, TP_.w_fat])⟩ dX7_readOne_124
            · skip
              exact ne_no (h_81) rx_71 rc_0
        · skip
          have r_82 := (⟨(eq_rg (h_55) rc_40).1, (eq_rg (h_55) rc_40).2⟩ : Rg 40 40 x_12)
          refine g_aload_n C 1 dX7_readOne_62 rfl rfl ?_
          refine g_aload_n C 2 dX7_readOne_63 rfl rfl ?_
          refine g_aload_n C 3 dX7_readOne_64 rfl rfl ?_
          refine g_iload_n C 4 dX7_readOne_65 rfl rfl ?_
          refine g_iconst C (v := 1) dX7_readOne_66 (by decide) ?_
          obtain ⟨x_83, hx_83, rx_83, tx_83⟩ := ex_add 9 9 ra2 rc_1 (by decide) (by decide) (by decide) (by decide)
          refine g_iadd C (v := x_83) dX7_readOne_67 hx_83 ?_
          refine g_callVI C K (c_X7_readCond_9 W9 hLx hkx hLa0 hka0 hLa1 hka1 x_83 (rx_83) hUI_46) hLx hkx (by decide) rfl v_7_46 rfl ⟨rfl, rfl⟩ ⟨Nat.le_of_ble_eq_true rfl, Nat.le_of_ble_eq_true rfl⟩ (Nat.le_of_ble_eq_true rfl) ⟨Nat.le_of_ble_eq_true rfl, Nat.le_of_ble_eq_true rfl⟩ dX7_readOne_68 rfl (st := []) (fun x_84 I_85 J_86 h_87 => ?_)
          obtain ⟨hUI_85, hFI_85, hGJ_86, rx_84, fx_84⟩ := h_87
          have hF_88 := fq_tr hF_49 hFI_85 (by decide)
          have hG_89 := fq_tr hG_50 hGJ_86 (by decide)
          obtain ⟨s_91, hs_91⟩ : ∃ z, TPq I_85 J_86 a0 b_5 b_6 b_7 b_8 b_9 = z := ⟨_, rfl⟩
          obtain ⟨s_92, hs_92⟩ : ∃ z, SPq I_85 J_86 x = z := ⟨_, rfl⟩
          have c_90 : fCond 0 (s_4) (s_52) ((SP_.w_so s_11 (x_38))) = (x_84, s_91, s_92) := by have q := fx_84; simp only [ebqa1, etqa0, esqx, hs_53, hs_52, hs_54, hs_91, hs_92] at q; exact q.symm
          have hs_93 : TBq I_85 J_86 a1 b_1 b_2 b_3 = s_4 := (bq_fq wbqa1 hFI_85 hGJ_86 (by decide) (by decide)).trans hs_53
          refine g_if_eq C (tgt := 87) dX7_readOne_71 (by decide) (fun h_94 => ?_) (fun h_94 => ?_)
          · skip
            refine g_iconst C (v := 0) dX7_readOne_87 (by decide) ?_
            exact g_zret (ty := .boolean) (r := 0) B K rfl (rfl) ⟨hUI_85, hF_88, hG_89, rg_w rc_0 (by decide) (by decide), (by (try simp only [hx_12, f_13, c_18, h_19, hx_22, f_23, h_24, (nle h_24), h_37, hx_38, c_51, (eq_true h_55), hx_83, (eq_true h_94), if_true, if_false, bqM_pnm, bqM_par, bqM_dnm, bqM_persons, bqM_dishes, bqM_law, bqM_dogs, TB_.w_pnm, TB_.w_par, TB_.w_dnm, TB_.w_persons, TB_.w_dishes, TB_.w_law, TB_.w_dogs, sqM_sl, sqM_so, SP_.w_sl, SP_.w_so, tqM_by_, tqM_wd, tqM_tk, tqM_pl, tqM_vl, tqM_len, tqM_n, tqM_at_, tqM_token, tqM_place, tqM_value, tqM_fault, tqM_fat, TP_.w_by_, TP_.w_wd, TP_.w_tk, TP_.w_pl, TP_.w_vl, TP_.w_len, TP_.w_n, TP_.w_at_, TP_.w_token, TP_.w_place, TP_.w_value, TP_.w_fault, TP_.w_fat] at c_90); simp only [fOne_k1, fAnd2, fFailS, fCmp, ebqa1, hs_93, hs_4, etqa0, hs_91, hs_10, esqx, hs_92, hs_11, hx_12, f_13, c_18, h_19, hx_22, f_23, h_24, (nle h_24), h_37, hx_38, c_51, (eq_true h_55), hx_83, c_90, (eq_true h_94), if_true, if_false, bqM_pnm, bqM_par, bqM_dnm, bqM_persons, bqM_dishes, bqM_law, bqM_dogs, TB_.w_pnm, TB_.w_par, TB_.w_dnm, TB_.w_persons, TB_.w_dishes, TB_.w_law, TB_.w_dogs, sqM_sl, sqM_so, SP_.w_sl, SP_.w_so, tqM_by_, tqM_wd, tqM_tk, tqM_pl, tqM_vl, tqM_len, tqM_n, tqM_at_, tqM_token, tqM_place, tqM_value, tqM_fault, tqM_fat, TP_.w_by_, TP_.w_wd, TP_.w_tk, TP_.w_pl, TP_.w_vl, TP_.w_len, TP_.w_n, TP_.w_at_, TP_.w_token, TP_.w_place, TP_.w_value, TP_.w_fault, TP_.w_fat])⟩ dX7_readOne_88
          · skip
            exact ne_no (h_94) rx_84 rc_0
      · skip
        have r_95 := lt_r (lo := 9) (nle h_37) rc_8 ra2 (by decide)
        exact rg_no r_95 (by decide)
  · skip
    have r_96 := (⟨(rx_14).1, (eq_rg (h_19) rc_0).2⟩ : Rg 0 0 x_14)
    refine g_aload_n C 2 dX7_readOne_14 rfl rfl ?_
    refine g_iconst C (v := 1) dX7_readOne_15 (by decide) ?_
    refine g_callVI C K (c_X10_fail W9 hLa0 hka0 1 (rg_w rc_1 (by decide) (by decide)) hU) hLa0 hka0 (by decide) rfl v_7_73 rfl ⟨rfl, rfl⟩ ⟨Nat.le_of_ble_eq_true rfl, Nat.le_of_ble_eq_true rfl⟩ (Nat.le_of_ble_eq_true rfl) ⟨Nat.le_of_ble_eq_true rfl, Nat.le_of_ble_eq_true rfl⟩ dX7_readOne_16 rfl (st := []) (fun x_97 I_98 J_99 h_100 => ?_)
    obtain ⟨hUI_98, hFI_98, hGJ_99, rx_97, fx_97⟩ := h_100
    have hF_101 := fq_tr hF hFI_98 (by decide)
    have hG_102 := fq_tr hG hGJ_99 (by decide)
    obtain ⟨s_104, hs_104⟩ : ∃ z, TPq I_98 J_99 a0 b_5 b_6 b_7 b_8 b_9 = z := ⟨_, rfl⟩
    have c_103 : fFail (1) (s_10) = (x_97, s_104) := by have q := fx_97; simp only [etqa0, hs_10, hs_104] at q; exact q.symm
    have hs_105 : TBq I_98 J_99 a1 b_1 b_2 b_3 = s_4 := (bq_fq wbqa1 hFI_98 hGJ_99 (by decide) (by decide)).trans hs_4
    have hs_106 : SPq I_98 J_99 x = s_11 := (sq_fq wsqx hFI_98 hGJ_99 (by decide) (by decide)).trans hs_11
    exact g_zret (ty := .boolean) (r := x_97) B K rfl (nar_z (rg_w rx_97 (by decide) (by decide))) ⟨hUI_98, hF_101, hG_102, rg_w rx_97 (by decide) (by decide), (by simp only [fOne_k1, fAnd2, fFailS, fCmp, ebqa1, hs_105, hs_4, etqa0, hs_104, hs_10, esqx, hs_106, hs_11, hx_12, f_13, c_18, (eq_true h_19), c_103, if_true, if_false, bqM_pnm, bqM_par, bqM_dnm, bqM_persons, bqM_dishes, bqM_law, bqM_dogs, TB_.w_pnm, TB_.w_par, TB_.w_dnm, TB_.w_persons, TB_.w_dishes, TB_.w_law, TB_.w_dogs, sqM_sl, sqM_so, SP_.w_sl, SP_.w_so, tqM_by_, tqM_wd, tqM_tk, tqM_pl, tqM_vl, tqM_len, tqM_n, tqM_at_, tqM_token, tqM_place, tqM_value, tqM_fault, tqM_fat, TP_.w_by_, TP_.w_wd, TP_.w_tk, TP_.w_pl, TP_.w_vl, TP_.w_len, TP_.w_n, TP_.w_at_, TP_.w_token, TP_.w_place, TP_.w_value, TP_.w_fault, TP_.w_fat])⟩ dX7_readOne_19
set_option maxRecDepth 100000 in
set_option maxHeartbeats 8000000 in
theorem c_X7_readAll_8 {l : Launch} {D : va_G} {cy : Nat → ClassId} {L : List Nat} {κ ln : Nat → Nat} {R : Nat → Nat → Option Nat} {I : Nat → Nat → Int32} {J : Nat → Nat → Int64} {ow : Nat → Nat × Nat} (W9 : ∀ a ∈ L, Shp L κ ln R ow a) {x : Nat} (hLx : x ∈ L) (hkx : κ x = 7) {a0 : Nat} (hLa0 : a0 ∈ L) (hka0 : κ a0 = 10) {a1 : Nat} (hLa1 : a1 ∈ L) (hka1 : κ a1 = 8) (a2 : Int32) (ra2 : Rg 8 8 a2) (hU : Iv L κ R ow I) : CtI l yX7_readAll cX7_readAll 6 (some .boolean) { frames := 5, cells := 0, slots := 0, locals := 119 } D cy L κ ln R I J [.ref x, .ref a0, .ref a1, .int a2] (fun r I2 J2 => Iv L κ R ow I2 ∧ Fq L κ ow [704, 705, 1007, 1008, 1009, 1011, 1012, 52000, 52100, 52200] I I2 ∧ Fq L κ ow [1010] J J2 ∧ Rg 0 1 r ∧ ((r, TPf R I2 J2 a0, SPf R I2 J2 x) = fAll 1 (TBf R I J a1) (TPf R I J a0) (SPf R I J x))) := by
  refine CtI.of (by decide +kernel) (Nat.le_of_ble_eq_true rfl) ?_
  intro p e s m below meth c B K
  have C := B.1
  have hF : Fq L κ ow [704, 705, 1007, 1008, 1009, 1011, 1012, 52000, 52100, 52200] I I := fq_rf
  have hG : Fq L κ ow [1010] J J := fq_rf
  obtain ⟨b_1, hb_1, hb_1L, hb_1k, hb_1n, hb_1o⟩ := shp_a (W9 a1 hLa1) hka1 0 15 7 rfl (by decide)
  obtain ⟨b_2, hb_2, hb_2L, hb_2k, hb_2n, hb_2o⟩ := shp_a (W9 a1 hLa1) hka1 2 14 7 rfl (by decide)
  obtain ⟨b_3, hb_3, hb_3L, hb_3k, hb_3n, hb_3o⟩ := shp_a (W9 a1 hLa1) hka1 3 15 6 rfl (by decide)
  have ebqa1 : ∀ I J, TBf R I J a1 = TBq I J a1 b_1 b_2 b_3 := fun I J => by simp only [TBf, rr_, Option.getD_some, hb_1, hb_2, hb_3]
  have wbqa1 : bqw_ L κ ow a1 b_1 b_2 b_3 := ⟨⟨hLa1, hb_1L, hb_2L, hb_3L⟩, ⟨(ro_o hka1 (by decide)), (ro_a hb_1k (by decide) hb_1o hka1 rfl), (ro_a hb_2k (by decide) hb_2o hka1 rfl), (ro_a hb_3k (by decide) hb_3o hka1 rfl)⟩⟩
  obtain ⟨s_4, hs_4⟩ : ∃ z, TBq I J a1 b_1 b_2 b_3 = z := ⟨_, rfl⟩
  obtain ⟨b_5, hb_5, hb_5L, hb_5k, hb_5n, hb_5o⟩ := shp_a (W9 a0 hLa0) hka0 0 13 940 rfl (by decide)
  obtain ⟨b_6, hb_6, hb_6L, hb_6k, hb_6n, hb_6o⟩ := shp_a (W9 a0 hLa0) hka0 1 15 28 rfl (by decide)
  obtain ⟨b_7, hb_7, hb_7L, hb_7k, hb_7n, hb_7o⟩ := shp_a (W9 a0 hLa0) hka0 2 14 901 rfl (by decide)
  obtain ⟨b_8, hb_8, hb_8L, hb_8k, hb_8n, hb_8o⟩ := shp_a (W9 a0 hLa0) hka0 3 14 901 rfl (by decide)
  obtain ⟨b_9, hb_9, hb_9L, hb_9k, hb_9n, hb_9o⟩ := shp_a (W9 a0 hLa0) hka0 4 15 901 rfl (by decide)
  have etqa0 : ∀ I J, TPf R I J a0 = TPq I J a0 b_5 b_6 b_7 b_8 b_9 := fun I J => by simp only [TPf, rr_, Option.getD_some, hb_5, hb_6, hb_7, hb_8, hb_9]
  have wtqa0 : tqw_ L κ ow a0 b_5 b_6 b_7 b_8 b_9 := ⟨⟨hLa0, hb_5L, hb_6L, hb_7L, hb_8L, hb_9L⟩, ⟨(ro_o hka0 (by decide)), (ro_a hb_5k (by decide) hb_5o hka0 rfl), (ro_a hb_6k (by decide) hb_6o hka0 rfl), (ro_a hb_7k (by decide) hb_7o hka0 rfl), (ro_a hb_8k (by decide) hb_8o hka0 rfl), (ro_a hb_9k (by decide) hb_9o hka0 rfl)⟩⟩
  obtain ⟨s_10, hs_10⟩ : ∃ z, TPq I J a0 b_5 b_6 b_7 b_8 b_9 = z := ⟨_, rfl⟩
  have esqx : ∀ I J, SPf R I J x = SPq I J x := fun I J => by simp only [SPf, rr_, Option.getD_some]
  have wsqx : sqw_ L κ ow x := ⟨hLx, (ro_o hkx (by decide))⟩
  obtain ⟨s_11, hs_11⟩ : ∃ z, SPq I J x = z := ⟨_, rfl⟩
  refine g_lo (is := [0, 1, 2, 3]) (lo2 := [(0, .ref x), (1, .ref a0), (2, .ref a1), (3, .int a2)]) rfl ?_
  have l_12 : ∀ (n_12 : Nat) (I_12 : Nat → Nat → Int32) (J_13 : Nat → Nat → Int64) (hU_14 : Iv L κ R ow I_12) (hF_15 : Fq L κ ow [704, 705, 1007, 1008, 1009, 1011, 1012, 52000, 52100, 52200] I I_12) (hG_16 : Fq L κ ow [1010] J J_13) (v_17 : Int32) (rv_17 : Rg 0 1 v_17) (v_18 : Int32) (rv_18 : Rg 0 20 v_18) (hq_19 : fLp (fOne 1 (TBq I_12 J_13 a1 b_1 b_2 b_3)) 18 v_18 v_17 (TPq I_12 J_13 a0 b_5 b_6 b_7 b_8 b_9) (SPq I_12 J_13 x) = fAll 1 s_4 s_10 s_11) (hm_20 : 20 < (v_18 : Int32).toInt + (n_12 : Int)), WG p l e { frames := 5, cells := 0, slots := 0, locals := 119 } s m ([.ref x, .ref a0, .ref a1, .int a2] : List Value).toArray below meth c 6 0 0 (MQ below (Qi_ D cy L κ ln R (fun r I2 J2 => Iv L κ R ow I2 ∧ Fq L κ ow [704, 705, 1007, 1008, 1009, 1011, 1012, 52000, 52100, 52200] I I2 ∧ Fq L κ ow [1010] J J2 ∧ Rg 0 1 r ∧ ((r, TPf R I2 J2 a0, SPf R I2 J2 x) = fAll 1 (TBf R I J a1) (TPf R I J a0) (SPf R I J x)))) ([.ref x, .ref a0, .ref a1, .int a2] : List Value).toArray s 0 0 (Al_ L)) D cy (Al_ L) s.heap L κ ln R I_12 J_13 12 [(0, .ref x), (1, .ref a0), (2, .ref a1), (3, .int a2), (4, .int v_17), (5, .int v_18)] [] := by
    intro n_12
    induction n_12 with
    | zero =>
      intro I_12 J_13 hU_14 hF_15 hG_16 v_17 rv_17 v_18 rv_18 hq_19 hm_20
      exact ms_0 rv_18 hm_20
    | succ n_12 ih_12 =>
      intro I_12 J_13 hU_14 hF_15 hG_16 v_17 rv_17 v_18 rv_18 hq_19 hm_20
      obtain ⟨s_21, hs_21⟩ : ∃ z, TBq I_12 J_13 a1 b_1 b_2 b_3 = z := ⟨_, rfl⟩
      obtain ⟨s_22, hs_22⟩ : ∃ z, TPq I_12 J_13 a0 b_5 b_6 b_7 b_8 b_9 = z := ⟨_, rfl⟩
      obtain ⟨s_23, hs_23⟩ : ∃ z, SPq I_12 J_13 x = z := ⟨_, rfl⟩
      simp only [hs_21, hs_22, hs_23] at hq_19
      have hQ_24 := hq_19.symm
      have u_25 := fLp_eq (rd := fOne 1 s_21) (k := 18) (i := v_18) (r := v_17) (t := s_22) (s := s_23) (rv_18)
      refine g_iload C 5 dX7_readAll_12 rfl ?_
      refine g_bipush C (v := 20) dX7_readAll_14 (by decide) ?_
      refine g_icmp_ge C (tgt := 71) dX7_readAll_16 (by decide) (fun h_26 => ?_) (fun h_26 => ?_)
      · skip
        have r_27 := le_r (h_26) rc_20 rv_18
        refine g_iload C 4 dX7_readAll_71 rfl ?_
        exact g_zret (ty := .boolean) (r := v_17) B K rfl (nar_z (rv_17)) ⟨hU_14, hF_15, hG_16, rv_17, (by (try simp only [h_26, if_true, if_false, bqM_pnm, bqM_par, bqM_dnm, bqM_persons, bqM_dishes, bqM_law, bqM_dogs, TB_.w_pnm, TB_.w_par, TB_.w_dnm, TB_.w_persons, TB_.w_dishes, TB_.w_law, TB_.w_dogs, sqM_sl, sqM_so, SP_.w_sl, SP_.w_so, tqM_by_, tqM_wd, tqM_tk, tqM_pl, tqM_vl, tqM_len, tqM_n, tqM_at_, tqM_token, tqM_place, tqM_value, tqM_fault, tqM_fat, TP_.w_by_, TP_.w_wd, TP_.w_tk, TP_.w_pl, TP_.w_vl, TP_.w_len, TP_.w_n, TP_.w_at_, TP_.w_token, TP_.w_place, TP_.w_value, TP_.w_fault, TP_.w_fat] at hQ_24); (try simp only [h_26, if_true, if_false, bqM_pnm, bqM_par, bqM_dnm, bqM_persons, bqM_dishes, bqM_law, bqM_dogs, TB_.w_pnm, TB_.w_par, TB_.w_dnm, TB_.w_persons, TB_.w_dishes, TB_.w_law, TB_.w_dogs, sqM_sl, sqM_so, SP_.w_sl, SP_.w_so, tqM_by_, tqM_wd, tqM_tk, tqM_pl, tqM_vl, tqM_len, tqM_n, tqM_at_, tqM_token, tqM_place, tqM_value, tqM_fault, tqM_fat, TP_.w_by_, TP_.w_wd, TP_.w_tk, TP_.w_pl, TP_.w_vl, TP_.w_len, TP_.w_n, TP_.w_at_, TP_.w_token, TP_.w_place, TP_.w_value, TP_.w_fault, TP_.w_fat] at u_25); simp only [ebqa1, hs_21, hs_4, etqa0, hs_22, hs_10, esqx, hs_23, hs_11, hQ_24, u_25, h_26, if_true, if_false, bqM_pnm, bqM_par, bqM_dnm, bqM_persons, bqM_dishes, bqM_law, bqM_dogs, TB_.w_pnm, TB_.w_par, TB_.w_dnm, TB_.w_persons, TB_.w_dishes, TB_.w_law, TB_.w_dogs, sqM_sl, sqM_so, SP_.w_sl, SP_.w_so, tqM_by_, tqM_wd, tqM_tk, tqM_pl, tqM_vl, tqM_len, tqM_n, tqM_at_, tqM_token, tqM_place, tqM_value, tqM_fault, tqM_fat, TP_.w_by_, TP_.w_wd, TP_.w_tk, TP_.w_pl, TP_.w_vl, TP_.w_len, TP_.w_n, TP_.w_at_, TP_.w_token, TP_.w_place, TP_.w_value, TP_.w_fault, TP_.w_fat])⟩ dX7_readAll_73
      · skip
        have r_28 := lt_l (hi := 19) (nle h_26) rv_18 rc_20 (by decide)
        refine g_iload C 4 dX7_readAll_19 rfl ?_
        refine g_if_eq C (tgt := 71) dX7_readAll_21 (by decide) (fun h_29 => ?_) (fun h_29 => ?_)
        · skip
          have r_30 := (⟨(rv_17).1, (eq_rg (h_29) rc_0).2⟩ : Rg 0 0 v_17)
          refine g_iload C 4 dX7_readAll_71 rfl ?_
          exact g_zret (ty := .boolean) (r := v_17) B K rfl (nar_z (rg_w r_30 (by decide) (by decide))) ⟨hU_14, hF_15, hG_16, rg_w r_30 (by decide) (by decide), (by (try simp only [h_26, (nle h_26), (eq_true h_29), if_true, if_false, bqM_pnm, bqM_par, bqM_dnm, bqM_persons, bqM_dishes, bqM_law, bqM_dogs, TB_.w_pnm, TB_.w_par, TB_.w_dnm, TB_.w_persons, TB_.w_dishes, TB_.w_law, TB_.w_dogs, sqM_sl, sqM_so, SP_.w_sl, SP_.w_so, tqM_by_, tqM_wd, tqM_tk, tqM_pl, tqM_vl, tqM_len, tqM_n, tqM_at_, tqM_token, tqM_place, tqM_value, tqM_fault, tqM_fat, TP_.w_by_, TP_.w_wd, TP_.w_tk, TP_.w_pl, TP_.w_vl, TP_.w_len, TP_.w_n, TP_.w_at_, TP_.w_token, TP_.w_place, TP_.w_value, TP_.w_fault, TP_.w_fat] at hQ_24); (try simp only [h_26, (nle h_26), (eq_true h_29), if_true, if_false, bqM_pnm, bqM_par, bqM_dnm, bqM_persons, bqM_dishes, bqM_law, bqM_dogs, TB_.w_pnm, TB_.w_par, TB_.w_dnm, TB_.w_persons, TB_.w_dishes, TB_.w_law, TB_.w_dogs, sqM_sl, sqM_so, SP_.w_sl, SP_.w_so, tqM_by_, tqM_wd, tqM_tk, tqM_pl, tqM_vl, tqM_len, tqM_n, tqM_at_, tqM_token, tqM_place, tqM_value, tqM_fault, tqM_fat, TP_.w_by_, TP_.w_wd, TP_.w_tk, TP_.w_pl, TP_.w_vl, TP_.w_len, TP_.w_n, TP_.w_at_, TP_.w_token, TP_.w_place, TP_.w_value, TP_.w_fault, TP_.w_fat] at u_25); simp only [ebqa1, hs_21, hs_4, etqa0, hs_22, hs_10, esqx, hs_23, hs_11, hQ_24, u_25, h_26, (nle h_26), (eq_true h_29), if_true, if_false, bqM_pnm, bqM_par, bqM_dnm, bqM_persons, bqM_dishes, bqM_law, bqM_dogs, TB_.w_pnm, TB_.w_par, TB_.w_dnm, TB_.w_persons, TB_.w_dishes, TB_.w_law, TB_.w_dogs, sqM_sl, sqM_so, SP_.w_sl, SP_.w_so, tqM_by_, tqM_wd, tqM_tk, tqM_pl, tqM_vl, tqM_len, tqM_n, tqM_at_, tqM_token, tqM_place, tqM_value, tqM_fault, tqM_fat, TP_.w_by_, TP_.w_wd, TP_.w_tk, TP_.w_pl, TP_.w_vl, TP_.w_len, TP_.w_n, TP_.w_at_, TP_.w_token, TP_.w_place, TP_.w_value, TP_.w_fault, TP_.w_fat])⟩ dX7_readAll_73
        · skip
          have n_31 : ¬ v_17 = 0 := h_29
          have r_32 := ne_lo (lo := 1) n_31 rv_17 rc_0 rfl (by decide)
          refine g_aload_n C 1 dX7_readAll_24 rfl rfl ?_
          obtain ⟨x_33, hx_33, rx_33⟩ := ex_get (I := I_12) (a := a0) (j := 8) (lo := (-2147483648)) (hi := 2147483647) hU_14.1 hLa0 (ro_o hka0 (by decide)) rfl
          have f_34 : s_22.token = x_33 := (congrArg TP_.token hs_22).symm.trans hx_33
          refine g_getI C K hLa0 hka0 f_7_57 (v := x_33) hx_33 dX7_readAll_25 ?_
          refine g_bipush C (v := 18) dX7_readAll_28 (by decide) ?_
          refine g_icmp_ne C (tgt := 71) dX7_readAll_30 (by decide) (fun h_35 => ?_) (fun h_35 => ?_)
          · skip
            have n_36 : ¬ x_33 = 18 := h_35
            refine g_iload C 4 dX7_readAll_71 rfl ?_
            exact g_zret (ty := .boolean) (r := v_17) B K rfl (nar_z (rg_w r_32 (by decide) (by decide))) ⟨hU_14, hF_15, hG_16, rg_w r_32 (by decide) (by decide), (by (try simp only [h_26, (nle h_26), h_29, hx_33, f_34, h_35, if_true, if_false, bqM_pnm, bqM_par, bqM_dnm, bqM_persons, bqM_dishes, bqM_law, bqM_dogs, TB_.w_pnm, TB_.w_par, TB_.w_dnm, TB_.w_persons, TB_.w_dishes, TB_.w_law, TB_.w_dogs, sqM_sl, sqM_so, SP_.w_sl, SP_.w_so, tqM_by_, tqM_wd, tqM_tk, tqM_pl, tqM_vl, tqM_len, tqM_n, tqM_at_, tqM_token, tqM_place, tqM_value, tqM_fault, tqM_fat, TP_.w_by_, TP_.w_wd, TP_.w_tk, TP_.w_pl, TP_.w_vl, TP_.w_len, TP_.w_n, TP_.w_at_, TP_.w_token, TP_.w_place, TP_.w_value, TP_.w_fault, TP_.w_fat] at hQ_24); (try simp only [h_26, (nle h_26), h_29, hx_33, f_34, h_35, if_true, if_false, bqM_pnm, bqM_par, bqM_dnm, bqM_persons, bqM_dishes, bqM_law, bqM_dogs, TB_.w_pnm, TB_.w_par, TB_.w_dnm, TB_.w_persons, TB_.w_dishes, TB_.w_law, TB_.w_dogs, sqM_sl, sqM_so, SP_.w_sl, SP_.w_so, tqM_by_, tqM_wd, tqM_tk, tqM_pl, tqM_vl, tqM_len, tqM_n, tqM_at_, tqM_token, tqM_place, tqM_value, tqM_fault, tqM_fat, TP_.w_by_, TP_.w_wd, TP_.w_tk, TP_.w_pl, TP_.w_vl, TP_.w_len, TP_.w_n, TP_.w_at_, TP_.w_token, TP_.w_place, TP_.w_value, TP_.w_fault, TP_.w_fat] at u_25); simp only [ebqa1, hs_21, hs_4, etqa0, hs_22, hs_10, esqx, hs_23, hs_11, hQ_24, u_25, h_26, (nle h_26), h_29, hx_33, f_34, h_35, if_true, if_false, bqM_pnm, bqM_par, bqM_dnm, bqM_persons, bqM_dishes, bqM_law, bqM_dogs, TB_.w_pnm, TB_.w_par, TB_.w_dnm, TB_.w_persons, TB_.w_dishes, TB_.w_law, TB_.w_dogs, sqM_sl, sqM_so, SP_.w_sl, SP_.w_so, tqM_by_, tqM_wd, tqM_tk, tqM_pl, tqM_vl, tqM_len, tqM_n, tqM_at_, tqM_token, tqM_place, tqM_value, tqM_fault, tqM_fat, TP_.w_by_, TP_.w_wd, TP_.w_tk, TP_.w_pl, TP_.w_vl, TP_.w_len, TP_.w_n, TP_.w_at_, TP_.w_token, TP_.w_place, TP_.w_value, TP_.w_fault, TP_.w_fat])⟩ dX7_readAll_73
          · skip
            have r_37 := (⟨(eq_rg (h_35) rc_18).1, (eq_rg (h_35) rc_18).2⟩ : Rg 18 18 x_33)
            refine g_aload_n C 1 dX7_readAll_33 rfl rfl ?_
            refine g_callVV C K (c_X10_advance W9 hLa0 hka0   hU_14) hLa0 hka0 (by decide) rfl v_7_60 rfl ⟨rfl, rfl⟩ ⟨Nat.le_of_ble_eq_true rfl, Nat.le_of_ble_eq_true rfl⟩ (Nat.le_of_ble_eq_true rfl) ⟨Nat.le_of_ble_eq_true rfl, Nat.le_of_ble_eq_true rfl⟩ dX7_readAll_34 rfl (st := []) (fun I_39 J_40 h_41 => ?_)
            obtain ⟨hUI_39, hFI_39, hGJ_40, fx_38⟩ := h_41
            have hF_42 := fq_tr hF_15 hFI_39 (by decide)
            have hG_43 := fq_tr hG_16 hGJ_40 (by decide)
            obtain ⟨s_45, hs_45⟩ : ∃ z, TPq I_39 J_40 a0 b_5 b_6 b_7 b_8 b_9 = z := ⟨_, rfl⟩
            have c_44 : fAdvance (s_22) = s_45 := by have q := fx_38; simp only [etqa0, hs_22, hs_45] at q; exact q.symm
            have hs_46 : TBq I_39 J_40 a1 b_1 b_2 b_3 = s_21 := (bq_fq wbqa1 hFI_39 hGJ_40 (by decide) (by decide)).trans hs_21
            have hs_47 : SPq I_39 J_40 x = s_23 := (sq_fq wsqx hFI_39 hGJ_40 (by decide) (by decide)).trans hs_23
            refine g_aload_n C 0 dX7_readAll_37 rfl rfl ?_
            refine g_aload_n C 1 dX7_readAll_38 rfl rfl ?_
            refine g_aload_n C 2 dX7_readAll_39 rfl rfl ?_
            refine g_iload_n C 3 dX7_readAll_40 rfl rfl ?_
            refine g_callVI C K (c_X7_readOne_8 W9 hLx hkx hLa0 hka0 hLa1 hka1 a2 (ra2) hUI_39) hLx hkx (by decide) rfl v_7_67 rfl ⟨rfl, rfl⟩ ⟨Nat.le_of_ble_eq_true rfl, Nat.le_of_ble_eq_true rfl⟩ (Nat.le_of_ble_eq_true rfl) ⟨Nat.le_of_ble_eq_true rfl, Nat.le_of_ble_eq_true rfl⟩ dX7_readAll_41 rfl (st := []) (fun x_48 I_49 J_50 h_51 => ?_)
            obtain ⟨hUI_49, hFI_49, hGJ_50, rx_48, fx_48⟩ := h_51
            have hF_52 := fq_tr hF_42 hFI_49 (by decide)
            have hG_53 := fq_tr hG_43 hGJ_50 (by decide)
            obtain ⟨s_55, hs_55⟩ : ∃ z, TPq I_49 J_50 a0 b_5 b_6 b_7 b_8 b_9 = z := ⟨_, rfl⟩
            obtain ⟨s_56, hs_56⟩ : ∃ z, SPq I_49 J_50 x = z := ⟨_, rfl⟩
            have c_54 : fOne 1 (s_21) (s_45) (s_23) = (x_48, s_55, s_56) := by have q := fx_48; simp only [ebqa1, etqa0, esqx, hs_46, hs_45, hs_47, hs_55, hs_56] at q; exact q.symm
            have hs_57 : TBq I_49 J_50 a1 b_1 b_2 b_3 = s_21 := (bq_fq wbqa1 hFI_49 hGJ_50 (by decide) (by decide)).trans hs_46
            refine g_if_eq C (tgt := 62) dX7_readAll_44 (by decide) (fun h_58 => ?_) (fun h_58 => ?_)
            · skip
              have r_59 := (⟨(rx_48).1, (eq_rg (h_58) rc_0).2⟩ : Rg 0 0 x_48)
              refine g_iconst C (v := 0) dX7_readAll_62 (by decide) ?_
              refine g_istore C dX7_readAll_63 (by decide) (lo2 := [(4, .int 0), (0, .ref x), (1, .ref a0), (2, .ref a1), (3, .int a2), (5, .int v_18)]) rfl ?_
              obtain ⟨x_60, hx_60, rx_60, tx_60⟩ := ex_add (y := 1) 1 20 r_28 rc_1 (by decide) (by decide) (by decide) (by decide)
              refine g_iinc C dX7_readAll_65 (k := 5) (v := x_60) rfl hx_60 (by decide) (lo2 := [(5, .int x_60), (4, .int 0), (0, .ref x), (1, .ref a0), (2, .ref a1), (3, .int a2)]) rfl ?_
              refine g_goto C (tgt := 12) dX7_readAll_68 (by decide) ?_
              refine g_lo (is := [2, 3, 4, 5, 1, 0]) (lo2 := [(0, .ref x), (1, .ref a0), (2, .ref a1), (3, .int a2), (4, .int 0), (5, .int x_60)]) rfl ?_
              exact ih_12 I_49 J_50 hUI_49 hF_52 hG_53 0 (rg_w rc_0 (by decide) (by decide)) x_60 (rg_w rx_60 (by decide) (by decide)) (by (try simp only [h_26, (nle h_26), h_29, hx_33, f_34, (eq_true h_35), c_44, c_54, (eq_true h_58), hx_60, if_true, if_false, bqM_pnm, bqM_par, bqM_dnm, bqM_persons, bqM_dishes, bqM_law, bqM_dogs, TB_.w_pnm, TB_.w_par, TB_.w_dnm, TB_.w_persons, TB_.w_dishes, TB_.w_law, TB_.w_dogs, sqM_sl, sqM_so, SP_.w_sl, SP_.w_so, tqM_by_, tqM_wd, tqM_tk, tqM_pl, tqM_vl, tqM_len, tqM_n, tqM_at_, tqM_token, tqM_place, tqM_value, tqM_fault, tqM_fat, TP_.w_by_, TP_.w_wd, TP_.w_tk, TP_.w_pl, TP_.w_vl, TP_.w_len, TP_.w_n, TP_.w_at_, TP_.w_token, TP_.w_place, TP_.w_value, TP_.w_fault, TP_.w_fat] at hQ_24); (try simp only [h_26, (nle h_26), h_29, hx_33, f_34, (eq_true h_35), c_44, c_54, (eq_true h_58), hx_60, if_true, if_false, bqM_pnm, bqM_par, bqM_dnm, bqM_persons, bqM_dishes, bqM_law, bqM_dogs, TB_.w_pnm, TB_.w_par, TB_.w_dnm, TB_.w_persons, TB_.w_dishes, TB_.w_law, TB_.w_dogs, sqM_sl, sqM_so, SP_.w_sl, SP_.w_so, tqM_by_, tqM_wd, tqM_tk, tqM_pl, tqM_vl, tqM_len, tqM_n, tqM_at_, tqM_token, tqM_place, tqM_value, tqM_fault, tqM_fat, TP_.w_by_, TP_.w_wd, TP_.w_tk, TP_.w_pl, TP_.w_vl, TP_.w_len, TP_.w_n, TP_.w_at_, TP_.w_token, TP_.w_place, TP_.w_value, TP_.w_fault, TP_.w_fat] at u_25); simp only [ebqa1, hs_57, hs_4, etqa0, hs_55, hs_10, esqx, hs_56, hs_11, hQ_24, u_25, h_26, (nle h_26), h_29, hx_33, f_34, (eq_true h_35), c_44, c_54, (eq_true h_58), hx_60, if_true, if_false, bqM_pnm, bqM_par, bqM_dnm, bqM_persons, bqM_dishes, bqM_law, bqM_dogs, TB_.w_pnm, TB_.w_par, TB_.w_dnm, TB_.w_persons, TB_.w_dishes, TB_.w_law, TB_.w_dogs, sqM_sl, sqM_so, SP_.w_sl, SP_.w_so, tqM_by_, tqM_wd, tqM_tk, tqM_pl, tqM_vl, tqM_len, tqM_n, tqM_at_, tqM_token, tqM_place, tqM_value, tqM_fault, tqM_fat, TP_.w_by_, TP_.w_wd, TP_.w_tk, TP_.w_pl, TP_.w_vl, TP_.w_len, TP_.w_n, TP_.w_at_, TP_.w_token, TP_.w_place, TP_.w_value, TP_.w_fault, TP_.w_fat]) (ms_1 hm_20 (ti_k tx_60 rc_1) (by decide))
            · skip
              have n_61 : ¬ x_48 = 0 := h_58
              have r_62 := ne_lo (lo := 1) n_61 rx_48 rc_0 rfl (by decide)
              refine g_aload_n C 0 dX7_readAll_47 rfl rfl ?_
              refine g_bipush C (v := 18) dX7_readAll_48 (by decide) ?_
              refine g_iconst C (v := 0) dX7_readAll_50 (by decide) ?_
              refine g_iconst C (v := 0) dX7_readAll_51 (by decide) ?_
              refine g_callVI C K (c_X7_addStep W9 hLx hkx 18 0 0 (rg_w rc_0 (by decide) (by decide)) hUI_49  (fun q => absurd q (by decide))) hLx hkx (by decide) rfl v_7_63 rfl ⟨rfl, rfl⟩ ⟨Nat.le_of_ble_eq_true rfl, Nat.le_of_ble_eq_true rfl⟩ (Nat.le_of_ble_eq_true rfl) ⟨Nat.le_of_ble_eq_true rfl, Nat.le_of_ble_eq_true rfl⟩ dX7_readAll_52 rfl (st := []) (fun x_63 I_64 J_65 h_66 => ?_)
              obtain ⟨hUI_64, hFI_64, hGJ_65, rx_63, fx_63⟩ := h_66
              have hF_67 := fq_tr hF_52 hFI_64 (by decide)
              have hG_68 := fq_tr hG_53 hGJ_65 (by decide)
              obtain ⟨s_70, hs_70⟩ : ∃ z, SPq I_64 J_65 x = z := ⟨_, rfl⟩
              have c_69 : fAddStep (s_56) = (x_63, s_70) := by have q := fx_63; simp only [esqx, hs_56, hs_70] at q; exact q.symm
              have hs_71 : TBq I_64 J_65 a1 b_1 b_2 b_3 = s_21 := (bq_fq wbqa1 hFI_64 hGJ_65 (by decide) (by decide)).trans hs_57
              have hs_72 : TPq I_64 J_65 a0 b_5 b_6 b_7 b_8 b_9 = s_55 := (tq_fq wtqa0 hFI_64 hGJ_65 (by decide) (by decide)).trans hs_55
              refine g_if_eq C (tgt := 62) dX7_readAll_55 (by decide) (fun h_73 => ?_) (fun h_73 => ?_)
              · skip
                have r_74 := (⟨(rx_63).1, (eq_rg (h_73) rc_0).2⟩ : Rg 0 0 x_63)
                refine g_iconst C (v := 0) dX7_readAll_62 (by decide) ?_
                refine g_istore C dX7_readAll_63 (by decide) (lo2 := [(4, .int 0), (0, .ref x), (1, .ref a0), (2, .ref a1), (3, .int a2), (5, .int v_18)]) rfl ?_
                obtain ⟨x_75, hx_75, rx_75, tx_75⟩ := ex_add (y := 1) 1 20 r_28 rc_1 (by decide) (by decide) (by decide) (by decide)
                refine g_iinc C dX7_readAll_65 (k := 5) (v := x_75) rfl hx_75 (by decide) (lo2 := [(5, .int x_75), (4, .int 0), (0, .ref x), (1, .ref a0), (2, .ref a1), (3, .int a2)]) rfl ?_
                refine g_goto C (tgt := 12) dX7_readAll_68 (by decide) ?_
                refine g_lo (is := [2, 3, 4, 5, 1, 0]) (lo2 := [(0, .ref x), (1, .ref a0), (2, .ref a1), (3, .int a2), (4, .int 0), (5, .int x_75)]) rfl ?_
                exact ih_12 I_64 J_65 hUI_64 hF_67 hG_68 0 (rg_w rc_0 (by decide) (by decide)) x_75 (rg_w rx_75 (by decide) (by decide)) (by (try simp only [h_26, (nle h_26), h_29, hx_33, f_34, (eq_true h_35), c_44, c_54, h_58, c_69, (eq_true h_73), hx_75, if_true, if_false, bqM_pnm, bqM_par, bqM_dnm, bqM_persons, bqM_dishes, bqM_law, bqM_dogs, TB_.w_pnm, TB_.w_par, TB_.w_dnm, TB_.w_persons, TB_.w_dishes, TB_.w_law, TB_.w_dogs, sqM_sl, sqM_so, SP_.w_sl, SP_.w_so, tqM_by_, tqM_wd, tqM_tk, tqM_pl, tqM_vl, tqM_len, tqM_n, tqM_at_, tqM_token, tqM_place, tqM_value, tqM_fault, tqM_fat, TP_.w_by_, TP_.w_wd, TP_.w_tk, TP_.w_pl, TP_.w_vl, TP_.w_len, TP_.w_n, TP_.w_at_, TP_.w_token, TP_.w_place, TP_.w_value, TP_.w_fault, TP_.w_fat] at hQ_24); (try simp only [h_26, (nle h_26), h_29, hx_33, f_34, (eq_true h_35), c_44, c_54, h_58, c_69, (eq_true h_73), hx_75, if_true, if_false, bqM_pnm, bqM_par, bqM_dnm, bqM_persons, bqM_dishes, bqM_law, bqM_dogs, TB_.w_pnm, TB_.w_par, TB_.w_dnm, TB_.w_persons, TB_.w_dishes, TB_.w_law, TB_.w_dogs, sqM_sl, sqM_so, SP_.w_sl, SP_.w_so, tqM_by_, tqM_wd, tqM_tk, tqM_pl, tqM_vl, tqM_len, tqM_n, tqM_at_, tqM_token, tqM_place, tqM_value, tqM_fault, tqM_fat, TP_.w_by_, TP_.w_wd, TP_.w_tk, TP_.w_pl, TP_.w_vl, TP_.w_len, TP_.w_n, TP_.w_at_, TP_.w_token, TP_.w_place, TP_.w_value, TP_.w_fault, TP_.w_fat] at u_25); simp only [ebqa1, hs_71, hs_4, etqa0, hs_72, hs_10, esqx, hs_70, hs_11, hQ_24, u_25, h_26, (nle h_26), h_29, hx_33, f_34, (eq_true h_35), c_44, c_54, h_58, c_69, (eq_true h_73), hx_75, if_true, if_false, bqM_pnm, bqM_par, bqM_dnm, bqM_persons, bqM_dishes, bqM_law, bqM_dogs, TB_.w_pnm, TB_.w_par, TB_.w_dnm, TB_.w_persons, TB_.w_dishes, TB_.w_law, TB_.w_dogs, sqM_sl, sqM_so, SP_.w_sl, SP_.w_so, tqM_by_, tqM_wd, tqM_tk, tqM_pl, tqM_vl, tqM_len, tqM_n, tqM_at_, tqM_token, tqM_place, tqM_value, tqM_fault, tqM_fat, TP_.w_by_, TP_.w_wd, TP_.w_tk, TP_.w_pl, TP_.w_vl, TP_.w_len, TP_.w_n, TP_.w_at_, TP_.w_token, TP_.w_place, TP_.w_value, TP_.w_fault, TP_.w_fat]) (ms_1 hm_20 (ti_k tx_75 rc_1) (by decide))
              · skip
                have n_76 : ¬ x_63 = 0 := h_73
                have r_77 := ne_lo (lo := 1) n_76 rx_63 rc_0 rfl (by decide)
                refine g_iconst C (v := 1) dX7_readAll_58 (by decide) ?_
                refine g_goto C (tgt := 63) dX7_readAll_59 (by decide) ?_
                refine g_istore C dX7_readAll_63 (by decide) (lo2 := [(4, .int 1), (0, .ref x), (1, .ref a0), (2, .ref a1), (3, .int a2), (5, .int v_18)]) rfl ?_
                obtain ⟨x_78, hx_78, rx_78, tx_78⟩ := ex_add (y := 1) 1 20 r_28 rc_1 (by decide) (by decide) (by decide) (by decide)
                refine g_iinc C dX7_readAll_65 (k := 5) (v := x_78) rfl hx_78 (by decide) (lo2 := [(5, .int x_78), (4, .int 1), (0, .ref x), (1, .ref a0), (2, .ref a1), (3, .int a2)]) rfl ?_
                refine g_goto C (tgt := 12) dX7_readAll_68 (by decide) ?_
                refine g_lo (is := [2, 3, 4, 5, 1, 0]) (lo2 := [(0, .ref x), (1, .ref a0), (2, .ref a1), (3, .int a2), (4, .int 1), (5, .int x_78)]) rfl ?_
                exact ih_12 I_64 J_65 hUI_64 hF_67 hG_68 1 (rg_w rc_1 (by decide) (by decide)) x_78 (rg_w rx_78 (by decide) (by decide)) (by (try simp only [h_26, (nle h_26), h_29, hx_33, f_34, (eq_true h_35), c_44, c_54, h_58, c_69, h_73, hx_78, if_true, if_false, bqM_pnm, bqM_par, bqM_dnm, bqM_persons, bqM_dishes, bqM_law, bqM_dogs, TB_.w_pnm, TB_.w_par, TB_.w_dnm, TB_.w_persons, TB_.w_dishes, TB_.w_law, TB_.w_dogs, sqM_sl, sqM_so, SP_.w_sl, SP_.w_so, tqM_by_, tqM_wd, tqM_tk, tqM_pl, tqM_vl, tqM_len, tqM_n, tqM_at_, tqM_token, tqM_place, tqM_value, tqM_fault, tqM_fat, TP_.w_by_, TP_.w_wd, TP_.w_tk, TP_.w_pl, TP_.w_vl, TP_.w_len, TP_.w_n, TP_.w_at_, TP_.w_token, TP_.w_place, TP_.w_value, TP_.w_fault, TP_.w_fat] at hQ_24); (try simp only [h_26, (nle h_26), h_29, hx_33, f_34, (eq_true h_35), c_44, c_54, h_58, c_69, h_73, hx_78, if_true, if_false, bqM_pnm, bqM_par, bqM_dnm, bqM_persons, bqM_dishes, bqM_law, bqM_dogs, TB_.w_pnm, TB_.w_par, TB_.w_dnm, TB_.w_persons, TB_.w_dishes, TB_.w_law, TB_.w_dogs, sqM_sl, sqM_so, SP_.w_sl, SP_.w_so, tqM_by_, tqM_wd, tqM_tk, tqM_pl, tqM_vl, tqM_len, tqM_n, tqM_at_, tqM_token, tqM_place, tqM_value, tqM_fault, tqM_fat, TP_.w_by_, TP_.w_wd, TP_.w_tk, TP_.w_pl, TP_.w_vl, TP_.w_len, TP_.w_n, TP_.w_at_, TP_.w_token, TP_.w_place, TP_.w_value, TP_.w_fault, TP_.w_fat] at u_25); simp only [ebqa1, hs_71, hs_4, etqa0, hs_72, hs_10, esqx, hs_70, hs_11, hQ_24, u_25, h_26, (nle h_26), h_29, hx_33, f_34, (eq_true h_35), c_44, c_54, h_58, c_69, h_73, hx_78, if_true, if_false, bqM_pnm, bqM_par, bqM_dnm, bqM_persons, bqM_dishes, bqM_law, bqM_dogs, TB_.w_pnm, TB_.w_par, TB_.w_dnm, TB_.w_persons, TB_.w_dishes, TB_.w_law, TB_.w_dogs, sqM_sl, sqM_so, SP_.w_sl, SP_.w_so, tqM_by_, tqM_wd, tqM_tk, tqM_pl, tqM_vl, tqM_len, tqM_n, tqM_at_, tqM_token, tqM_place, tqM_value, tqM_fault, tqM_fat, TP_.w_by_, TP_.w_wd, TP_.w_tk, TP_.w_pl, TP_.w_vl, TP_.w_len, TP_.w_n, TP_.w_at_, TP_.w_token, TP_.w_place, TP_.w_value, TP_.w_fault, TP_.w_fat]) (ms_1 hm_20 (ti_k tx_78 rc_1) (by decide))
  refine g_aload_n C 0 dX7_readAll_0 rfl rfl ?_
  refine g_aload_n C 1 dX7_readAll_1 rfl rfl ?_
  refine g_aload_n C 2 dX7_readAll_2 rfl rfl ?_
  refine g_iload_n C 3 dX7_readAll_3 rfl rfl ?_
  refine g_callVI C K (c_X7_readOne_8 W9 hLx hkx hLa0 hka0 hLa1 hka1 a2 (ra2) hU) hLx hkx (by decide) rfl v_7_67 rfl ⟨rfl, rfl⟩ ⟨Nat.le_of_ble_eq_true rfl, Nat.le_of_ble_eq_true rfl⟩ (Nat.le_of_ble_eq_true rfl) ⟨Nat.le_of_ble_eq_true rfl, Nat.le_of_ble_eq_true rfl⟩ dX7_readAll_4 rfl (st := []) (fun x_79 I_80 J_81 h_82 => ?_)
  obtain ⟨hUI_80, hFI_80, hGJ_81, rx_79, fx_79⟩ := h_82
  have hF_83 := fq_tr hF hFI_80 (by decide)
  have hG_84 := fq_tr hG hGJ_81 (by decide)
  obtain ⟨s_86, hs_86⟩ : ∃ z, TPq I_80 J_81 a0 b_5 b_6 b_7 b_8 b_9 = z := ⟨_, rfl⟩
  obtain ⟨s_87, hs_87⟩ : ∃ z, SPq I_80 J_81 x = z := ⟨_, rfl⟩
  have c_85 : fOne 1 (s_4) (s_10) (s_11) = (x_79, s_86, s_87) := by have q := fx_79; simp only [ebqa1, etqa0, esqx, hs_4, hs_10, hs_11, hs_86, hs_87] at q; exact q.symm
  have hs_88 : TBq I_80 J_81 a1 b_1 b_2 b_3 = s_4 := (bq_fq wbqa1 hFI_80 hGJ_81 (by decide) (by decide)).trans hs_4
  refine g_istore C dX7_readAll_7 (by decide) (lo2 := [(4, .int x_79), (0, .ref x), (1, .ref a0), (2, .ref a1), (3, .int a2)]) rfl ?_
  refine g_iconst C (v := 0) dX7_readAll_9 (by decide) ?_
  refine g_istore C dX7_readAll_10 (by decide) (lo2 := [(5, .int 0), (4, .int x_79), (0, .ref x), (1, .ref a0), (2, .ref a1), (3, .int a2)]) rfl ?_
  refine g_lo (is := [2, 3, 4, 5, 1, 0]) (lo2 := [(0, .ref x), (1, .ref a0), (2, .ref a1), (3, .int a2), (4, .int x_79), (5, .int 0)]) rfl ?_
  exact l_12 21 I_80 J_81 hUI_80 hF_83 hG_84 x_79 (rx_79) 0 (rg_w rc_0 (by decide) (by decide)) (by simp only [fAll, ebqa1, hs_88, hs_4, etqa0, hs_86, hs_10, esqx, hs_87, hs_11, c_85, if_true, if_false, bqM_pnm, bqM_par, bqM_dnm, bqM_persons, bqM_dishes, bqM_law, bqM_dogs, TB_.w_pnm, TB_.w_par, TB_.w_dnm, TB_.w_persons, TB_.w_dishes, TB_.w_law, TB_.w_dogs, sqM_sl, sqM_so, SP_.w_sl, SP_.w_so, tqM_by_, tqM_wd, tqM_tk, tqM_pl, tqM_vl, tqM_len, tqM_n, tqM_at_, tqM_token, tqM_place, tqM_value, tqM_fault, tqM_fat, TP_.w_by_, TP_.w_wd, TP_.w_tk, TP_.w_pl, TP_.w_vl, TP_.w_len, TP_.w_n, TP_.w_at_, TP_.w_token, TP_.w_place, TP_.w_value, TP_.w_fault, TP_.w_fat]) (ms_s (a := 0) (b := 20) (N := 21) (rg_w rc_0 (by decide) (by decide)) (by decide))
set_option maxRecDepth 100000 in
set_option maxHeartbeats 8000000 in
theorem c_X7_readCond_8 {l : Launch} {D : va_G} {cy : Nat → ClassId} {L : List Nat} {κ ln : Nat → Nat} {R : Nat → Nat → Option Nat} {I : Nat → Nat → Int32} {J : Nat → Nat → Int64} {ow : Nat → Nat × Nat} (W9 : ∀ a ∈ L, Shp L κ ln R ow a) {x : Nat} (hLx : x ∈ L) (hkx : κ x = 7) {a0 : Nat} (hLa0 : a0 ∈ L) (hka0 : κ a0 = 10) {a1 : Nat} (hLa1 : a1 ∈ L) (hka1 : κ a1 = 8) (a2 : Int32) (ra2 : Rg 8 8 a2) (hU : Iv L κ R ow I) : CtI l yX7_readCond cX7_readCond 6 (some .boolean) { frames := 6, cells := 0, slots := 0, locals := 144 } D cy L κ ln R I J [.ref x, .ref a0, .ref a1, .int a2] (fun r I2 J2 => Iv L κ R ow I2 ∧ Fq L κ ow [704, 705, 1007, 1008, 1009, 1011, 1012, 52000, 52100, 52200] I I2 ∧ Fq L κ ow [1010] J J2 ∧ Rg 0 1 r ∧ ((r, TPf R I2 J2 a0, SPf R I2 J2 x) = fCond 1 (TBf R I J a1) (TPf R I J a0) (SPf R I J x))) := by
  refine CtI.of (by decide +kernel) (Nat.le_of_ble_eq_true rfl) ?_
  intro p e s m below meth c B K
  have C := B.1
  have hF : Fq L κ ow [704, 705, 1007, 1008, 1009, 1011, 1012, 52000, 52100, 52200] I I := fq_rf
  have hG : Fq L κ ow [1010] J J := fq_rf
  obtain ⟨b_1, hb_1, hb_1L, hb_1k, hb_1n, hb_1o⟩ := shp_a (W9 a1 hLa1) hka1 0 15 7 rfl (by decide)
  obtain ⟨b_2, hb_2, hb_2L, hb_2k, hb_2n, hb_2o⟩ := shp_a (W9 a1 hLa1) hka1 2 14 7 rfl (by decide)
  obtain ⟨b_3, hb_3, hb_3L, hb_3k, hb_3n, hb_3o⟩ := shp_a (W9 a1 hLa1) hka1 3 15 6 rfl (by decide)
  have ebqa1 : ∀ I J, TBf R I J a1 = TBq I J a1 b_1 b_2 b_3 := fun I J => by simp only [TBf, rr_, Option.getD_some, hb_1, hb_2, hb_3]
  have wbqa1 : bqw_ L κ ow a1 b_1 b_2 b_3 := ⟨⟨hLa1, hb_1L, hb_2L, hb_3L⟩, ⟨(ro_o hka1 (by decide)), (ro_a hb_1k (by decide) hb_1o hka1 rfl), (ro_a hb_2k (by decide) hb_2o hka1 rfl), (ro_a hb_3k (by decide) hb_3o hka1 rfl)⟩⟩
  obtain ⟨s_4, hs_4⟩ : ∃ z, TBq I J a1 b_1 b_2 b_3 = z := ⟨_, rfl⟩
  obtain ⟨b_5, hb_5, hb_5L, hb_5k, hb_5n, hb_5o⟩ := shp_a (W9 a0 hLa0) hka0 0 13 940 rfl (by decide)
  obtain ⟨b_6, hb_6, hb_6L, hb_6k, hb_6n, hb_6o⟩ := shp_a (W9 a0 hLa0) hka0 1 15 28 rfl (by decide)
  obtain ⟨b_7, hb_7, hb_7L, hb_7k, hb_7n, hb_7o⟩ := shp_a (W9 a0 hLa0) hka0 2 14 901 rfl (by decide)
  obtain ⟨b_8, hb_8, hb_8L, hb_8k, hb_8n, hb_8o⟩ := shp_a (W9 a0 hLa0) hka0 3 14 901 rfl (by decide)
  obtain ⟨b_9, hb_9, hb_9L, hb_9k, hb_9n, hb_9o⟩ := shp_a (W9 a0 hLa0) hka0 4 15 901 rfl (by decide)
  have etqa0 : ∀ I J, TPf R I J a0 = TPq I J a0 b_5 b_6 b_7 b_8 b_9 := fun I J => by simp only [TPf, rr_, Option.getD_some, hb_5, hb_6, hb_7, hb_8, hb_9]
  have wtqa0 : tqw_ L κ ow a0 b_5 b_6 b_7 b_8 b_9 := ⟨⟨hLa0, hb_5L, hb_6L, hb_7L, hb_8L, hb_9L⟩, ⟨(ro_o hka0 (by decide)), (ro_a hb_5k (by decide) hb_5o hka0 rfl), (ro_a hb_6k (by decide) hb_6o hka0 rfl), (ro_a hb_7k (by decide) hb_7o hka0 rfl), (ro_a hb_8k (by decide) hb_8o hka0 rfl), (ro_a hb_9k (by decide) hb_9o hka0 rfl)⟩⟩
  obtain ⟨s_10, hs_10⟩ : ∃ z, TPq I J a0 b_5 b_6 b_7 b_8 b_9 = z := ⟨_, rfl⟩
  have esqx : ∀ I J, SPf R I J x = SPq I J x := fun I J => by simp only [SPf, rr_, Option.getD_some]
  have wsqx : sqw_ L κ ow x := ⟨hLx, (ro_o hkx (by decide))⟩
  obtain ⟨s_11, hs_11⟩ : ∃ z, SPq I J x = z := ⟨_, rfl⟩
  refine g_lo (is := [0, 1, 2, 3]) (lo2 := [(0, .ref x), (1, .ref a0), (2, .ref a1), (3, .int a2)]) rfl ?_
  have l_12 : ∀ (n_12 : Nat) (I_12 : Nat → Nat → Int32) (J_13 : Nat → Nat → Int64) (hU_14 : Iv L κ R ow I_12) (hF_15 : Fq L κ ow [704, 705, 1007, 1008, 1009, 1011, 1012, 52000, 52100, 52200] I I_12) (hG_16 : Fq L κ ow [1010] J J_13) (v_17 : Int32) (rv_17 : Rg 0 1 v_17) (v_18 : Int32) (rv_18 : Rg 0 20 v_18) (hq_19 : fLp (fAll 1 (TBq I_12 J_13 a1 b_1 b_2 b_3)) 17 v_18 v_17 (TPq I_12 J_13 a0 b_5 b_6 b_7 b_8 b_9) (SPq I_12 J_13 x) = fCond 1 s_4 s_10 s_11) (hm_20 : 20 < (v_18 : Int32).toInt + (n_12 : Int)), WG p l e { frames := 6, cells := 0, slots := 0, locals := 144 } s m ([.ref x, .ref a0, .ref a1, .int a2] : List Value).toArray below meth c 6 0 0 (MQ below (Qi_ D cy L κ ln R (fun r I2 J2 => Iv L κ R ow I2 ∧ Fq L κ ow [704, 705, 1007, 1008, 1009, 1011, 1012, 52000, 52100, 52200] I I2 ∧ Fq L κ ow [1010] J J2 ∧ Rg 0 1 r ∧ ((r, TPf R I2 J2 a0, SPf R I2 J2 x) = fCond 1 (TBf R I J a1) (TPf R I J a0) (SPf R I J x)))) ([.ref x, .ref a0, .ref a1, .int a2] : List Value).toArray s 0 0 (Al_ L)) D cy (Al_ L) s.heap L κ ln R I_12 J_13 12 [(0, .ref x), (1, .ref a0), (2, .ref a1), (3, .int a2), (4, .int v_17), (5, .int v_18)] [] := by
    intro n_12
    induction n_12 with
    | zero =>
      intro I_12 J_13 hU_14 hF_15 hG_16 v_17 rv_17 v_18 rv_18 hq_19 hm_20
      exact ms_0 rv_18 hm_20
    | succ n_12 ih_12 =>
      intro I_12 J_13 hU_14 hF_15 hG_16 v_17 rv_17 v_18 rv_18 hq_19 hm_20
      obtain ⟨s_21, hs_21⟩ : ∃ z, TBq I_12 J_13 a1 b_1 b_2 b_3 = z := ⟨_, rfl⟩
      obtain ⟨s_22, hs_22⟩ : ∃ z, TPq I_12 J_13 a0 b_5 b_6 b_7 b_8 b_9 = z := ⟨_, rfl⟩
      obtain ⟨s_23, hs_23⟩ : ∃ z, SPq I_12 J_13 x = z := ⟨_, rfl⟩
      simp only [hs_21, hs_22, hs_23] at hq_19
      have hQ_24 := hq_19.symm
      have u_25 := fLp_eq (rd := fAll 1 s_21) (k := 17) (i := v_18) (r := v_17) (t := s_22) (s := s_23) (rv_18)
      refine g_iload C 5 dX7_readCond_12 rfl ?_
      refine g_bipush C (v := 20) dX7_readCond_14 (by decide) ?_
      refine g_icmp_ge C (tgt := 71) dX7_readCond_16 (by decide) (fun h_26 => ?_) (fun h_26 => ?_)
      · skip
        have r_27 := le_r (h_26) rc_20 rv_18
        refine g_iload C 4 dX7_readCond_71 rfl ?_
        exact g_zret (ty := .boolean) (r := v_17) B K rfl (nar_z (rv_17)) ⟨hU_14, hF_15, hG_16, rv_17, (by (try simp only [h_26, if_true, if_false, bqM_pnm, bqM_par, bqM_dnm, bqM_persons, bqM_dishes, bqM_law, bqM_dogs, TB_.w_pnm, TB_.w_par, TB_.w_dnm, TB_.w_persons, TB_.w_dishes, TB_.w_law, TB_.w_dogs, sqM_sl, sqM_so, SP_.w_sl, SP_.w_so, tqM_by_, tqM_wd, tqM_tk, tqM_pl, tqM_vl, tqM_len, tqM_n, tqM_at_, tqM_token, tqM_place, tqM_value, tqM_fault, tqM_fat, TP_.w_by_, TP_.w_wd, TP_.w_tk, TP_.w_pl, TP_.w_vl, TP_.w_len, TP_.w_n, TP_.w_at_, TP_.w_token, TP_.w_place, TP_.w_value, TP_.w_fault, TP_.w_fat] at hQ_24); (try simp only [h_26, if_true, if_false, bqM_pnm, bqM_par, bqM_dnm, bqM_persons, bqM_dishes, bqM_law, bqM_dogs, TB_.w_pnm, TB_.w_par, TB_.w_dnm, TB_.w_persons, TB_.w_dishes, TB_.w_law, TB_.w_dogs, sqM_sl, sqM_so, SP_.w_sl, SP_.w_so, tqM_by_, tqM_wd, tqM_tk, tqM_pl, tqM_vl, tqM_len, tqM_n, tqM_at_, tqM_token, tqM_place, tqM_value, tqM_fault, tqM_fat, TP_.w_by_, TP_.w_wd, TP_.w_tk, TP_.w_pl, TP_.w_vl, TP_.w_len, TP_.w_n, TP_.w_at_, TP_.w_token, TP_.w_place, TP_.w_value, TP_.w_fault, TP_.w_fat] at u_25); simp only [ebqa1, hs_21, hs_4, etqa0, hs_22, hs_10, esqx, hs_23, hs_11, hQ_24, u_25, h_26, if_true, if_false, bqM_pnm, bqM_par, bqM_dnm, bqM_persons, bqM_dishes, bqM_law, bqM_dogs, TB_.w_pnm, TB_.w_par, TB_.w_dnm, TB_.w_persons, TB_.w_dishes, TB_.w_law, TB_.w_dogs, sqM_sl, sqM_so, SP_.w_sl, SP_.w_so, tqM_by_, tqM_wd, tqM_tk, tqM_pl, tqM_vl, tqM_len, tqM_n, tqM_at_, tqM_token, tqM_place, tqM_value, tqM_fault, tqM_fat, TP_.w_by_, TP_.w_wd, TP_.w_tk, TP_.w_pl, TP_.w_vl, TP_.w_len, TP_.w_n, TP_.w_at_, TP_.w_token, TP_.w_place, TP_.w_value, TP_.w_fault, TP_.w_fat])⟩ dX7_readCond_73
      · skip
        have r_28 := lt_l (hi := 19) (nle h_26) rv_18 rc_20 (by decide)
        refine g_iload C 4 dX7_readCond_19 rfl ?_
        refine g_if_eq C (tgt := 71) dX7_readCond_21 (by decide) (fun h_29 => ?_) (fun h_29 => ?_)
        · skip
          have r_30 := (⟨(rv_17).1, (eq_rg (h_29) rc_0).2⟩ : Rg 0 0 v_17)
          refine g_iload C 4 dX7_readCond_71 rfl ?_
          exact g_zret (ty := .boolean) (r := v_17) B K rfl (nar_z (rg_w r_30 (by decide) (by decide))) ⟨hU_14, hF_15, hG_16, rg_w r_30 (by decide) (by decide), (by (try simp only [h_26, (nle h_26), (eq_true h_29), if_true, if_false, bqM_pnm, bqM_par, bqM_dnm, bqM_persons, bqM_dishes, bqM_law, bqM_dogs, TB_.w_pnm, TB_.w_par, TB_.w_dnm, TB_.w_persons, TB_.w_dishes, TB_.w_law, TB_.w_dogs, sqM_sl, sqM_so, SP_.w_sl, SP_.w_so, tqM_by_, tqM_wd, tqM_tk, tqM_pl, tqM_vl, tqM_len, tqM_n, tqM_at_, tqM_token, tqM_place, tqM_value, tqM_fault, tqM_fat, TP_.w_by_, TP_.w_wd, TP_.w_tk, TP_.w_pl, TP_.w_vl, TP_.w_len, TP_.w_n, TP_.w_at_, TP_.w_token, TP_.w_place, TP_.w_value, TP_.w_fault, TP_.w_fat] at hQ_24); (try simp only [h_26, (nle h_26), (eq_true h_29), if_true, if_false, bqM_pnm, bqM_par, bqM_dnm, bqM_persons, bqM_dishes, bqM_law, bqM_dogs, TB_.w_pnm, TB_.w_par, TB_.w_dnm, TB_.w_persons, TB_.w_dishes, TB_.w_law, TB_.w_dogs, sqM_sl, sqM_so, SP_.w_sl, SP_.w_so, tqM_by_, tqM_wd, tqM_tk, tqM_pl, tqM_vl, tqM_len, tqM_n, tqM_at_, tqM_token, tqM_place, tqM_value, tqM_fault, tqM_fat, TP_.w_by_, TP_.w_wd, TP_.w_tk, TP_.w_pl, TP_.w_vl, TP_.w_len, TP_.w_n, TP_.w_at_, TP_.w_token, TP_.w_place, TP_.w_value, TP_.w_fault, TP_.w_fat] at u_25); simp only [ebqa1, hs_21, hs_4, etqa0, hs_22, hs_10, esqx, hs_23, hs_11, hQ_24, u_25, h_26, (nle h_26), (eq_true h_29), if_true, if_false, bqM_pnm, bqM_par, bqM_dnm, bqM_persons, bqM_dishes, bqM_law, bqM_dogs, TB_.w_pnm, TB_.w_par, TB_.w_dnm, TB_.w_persons, TB_.w_dishes, TB_.w_law, TB_.w_dogs, sqM_sl, sqM_so, SP_.w_sl, SP_.w_so, tqM_by_, tqM_wd, tqM_tk, tqM_pl, tqM_vl, tqM_len, tqM_n, tqM_at_, tqM_token, tqM_place, tqM_value, tqM_fault, tqM_fat, TP_.w_by_, TP_.w_wd, TP_.w_tk, TP_.w_pl, TP_.w_vl, TP_.w_len, TP_.w_n, TP_.w_at_, TP_.w_token, TP_.w_place, TP_.w_value, TP_.w_fault, TP_.w_fat])⟩ dX7_readCond_73
        · skip
          have n_31 : ¬ v_17 = 0 := h_29
          have r_32 := ne_lo (lo := 1) n_31 rv_17 rc_0 rfl (by decide)
          refine g_aload_n C 1 dX7_readCond_24 rfl rfl ?_
          obtain ⟨x_33, hx_33, rx_33⟩ := ex_get (I := I_12) (a := a0) (j := 8) (lo := (-2147483648)) (hi := 2147483647) hU_14.1 hLa0 (ro_o hka0 (by decide)) rfl
          have f_34 : s_22.token = x_33 := (congrArg TP_.token hs_22).symm.trans hx_33
          refine g_getI C K hLa0 hka0 f_7_57 (v := x_33) hx_33 dX7_readCond_25 ?_
          refine g_bipush C (v := 17) dX7_readCond_28 (by decide) ?_
          refine g_icmp_ne C (tgt := 71) dX7_readCond_30 (by decide) (fun h_35 => ?_) (fun h_35 => ?_)
          · skip
            have n_36 : ¬ x_33 = 17 := h_35
            refine g_iload C 4 dX7_readCond_71 rfl ?_
            exact g_zret (ty := .boolean) (r := v_17) B K rfl (nar_z (rg_w r_32 (by decide) (by decide))) ⟨hU_14, hF_15, hG_16, rg_w r_32 (by decide) (by decide), (by (try simp only [h_26, (nle h_26), h_29, hx_33, f_34, h_35, if_true, if_false, bqM_pnm, bqM_par, bqM_dnm, bqM_persons, bqM_dishes, bqM_law, bqM_dogs, TB_.w_pnm, TB_.w_par, TB_.w_dnm, TB_.w_persons, TB_.w_dishes, TB_.w_law, TB_.w_dogs, sqM_sl, sqM_so, SP_.w_sl, SP_.w_so, tqM_by_, tqM_wd, tqM_tk, tqM_pl, tqM_vl, tqM_len, tqM_n, tqM_at_, tqM_token, tqM_place, tqM_value, tqM_fault, tqM_fat, TP_.w_by_, TP_.w_wd, TP_.w_tk, TP_.w_pl, TP_.w_vl, TP_.w_len, TP_.w_n, TP_.w_at_, TP_.w_token, TP_.w_place, TP_.w_value, TP_.w_fault, TP_.w_fat] at hQ_24); (try simp only [h_26, (nle h_26), h_29, hx_33, f_34, h_35, if_true, if_false, bqM_pnm, bqM_par, bqM_dnm, bqM_persons, bqM_dishes, bqM_law, bqM_dogs, TB_.w_pnm, TB_.w_par, TB_.w_dnm, TB_.w_persons, TB_.w_dishes, TB_.w_law, TB_.w_dogs, sqM_sl, sqM_so, SP_.w_sl, SP_.w_so, tqM_by_, tqM_wd, tqM_tk, tqM_pl, tqM_vl, tqM_len, tqM_n, tqM_at_, tqM_token, tqM_place, tqM_value, tqM_fault, tqM_fat, TP_.w_by_, TP_.w_wd, TP_.w_tk, TP_.w_pl, TP_.w_vl, TP_.w_len, TP_.w_n, TP_.w_at_, TP_.w_token, TP_.w_place, TP_.w_value, TP_.w_fault, TP_.w_fat] at u_25); simp only [ebqa1, hs_21, hs_4, etqa0, hs_22, hs_10, esqx, hs_23, hs_11, hQ_24, u_25, h_26, (nle h_26), h_29, hx_33, f_34, h_35, if_true, if_false, bqM_pnm, bqM_par, bqM_dnm, bqM_persons, bqM_dishes, bqM_law, bqM_dogs, TB_.w_pnm, TB_.w_par, TB_.w_dnm, TB_.w_persons, TB_.w_dishes, TB_.w_law, TB_.w_dogs, sqM_sl, sqM_so, SP_.w_sl, SP_.w_so, tqM_by_, tqM_wd, tqM_tk, tqM_pl, tqM_vl, tqM_len, tqM_n, tqM_at_, tqM_token, tqM_place, tqM_value, tqM_fault, tqM_fat, TP_.w_by_, TP_.w_wd, TP_.w_tk, TP_.w_pl, TP_.w_vl, TP_.w_len, TP_.w_n, TP_.w_at_, TP_.w_token, TP_.w_place, TP_.w_value, TP_.w_fault, TP_.w_fat])⟩ dX7_readCond_73
          · skip
            have r_37 := (⟨(eq_rg (h_35) rc_17).1, (eq_rg (h_35) rc_17).2⟩ : Rg 17 17 x_33)
            refine g_aload_n C 1 dX7_readCond_33 rfl rfl ?_
            refine g_callVV C K (c_X10_advance W9 hLa0 hka0   hU_14) hLa0 hka0 (by decide) rfl v_7_60 rfl ⟨rfl, rfl⟩ ⟨Nat.le_of_ble_eq_true rfl, Nat.le_of_ble_eq_true rfl⟩ (Nat.le_of_ble_eq_true rfl) ⟨Nat.le_of_ble_eq_true rfl, Nat.le_of_ble_eq_true rfl⟩ dX7_readCond_34 rfl (st := []) (fun I_39 J_40 h_41 => ?_)
            obtain ⟨hUI_39, hFI_39, hGJ_40, fx_38⟩ := h_41
            have hF_42 := fq_tr hF_15 hFI_39 (by decide)
            have hG_43 := fq_tr hG_16 hGJ_40 (by decide)
            obtain ⟨s_45, hs_45⟩ : ∃ z, TPq I_39 J_40 a0 b_5 b_6 b_7 b_8 b_9 = z := ⟨_, rfl⟩
            have c_44 : fAdvance (s_22) = s_45 := by have q := fx_38; simp only [etqa0, hs_22, hs_45] at q; exact q.symm
            have hs_46 : TBq I_39 J_40 a1 b_1 b_2 b_3 = s_21 := (bq_fq wbqa1 hFI_39 hGJ_40 (by decide) (by decide)).trans hs_21
            have hs_47 : SPq I_39 J_40 x = s_23 := (sq_fq wsqx hFI_39 hGJ_40 (by decide) (by decide)).trans hs_23
            refine g_aload_n C 0 dX7_readCond_37 rfl rfl ?_
            refine g_aload_n C 1 dX7_readCond_38 rfl rfl ?_
            refine g_aload_n C 2 dX7_readCond_39 rfl rfl ?_
            refine g_iload_n C 3 dX7_readCond_40 rfl rfl ?_
            refine g_callVI C K (c_X7_readAll_8 W9 hLx hkx hLa0 hka0 hLa1 hka1 a2 (ra2) hUI_39) hLx hkx (by decide) rfl v_7_54 rfl ⟨rfl, rfl⟩ ⟨Nat.le_of_ble_eq_true rfl, Nat.le_of_ble_eq_true rfl⟩ (Nat.le_of_ble_eq_true rfl) ⟨Nat.le_of_ble_eq_true rfl, Nat.le_of_ble_eq_true rfl⟩ dX7_readCond_41 rfl (st := []) (fun x_48 I_49 J_50 h_51 => ?_)
            obtain ⟨hUI_49, hFI_49, hGJ_50, rx_48, fx_48⟩ := h_51
            have hF_52 := fq_tr hF_42 hFI_49 (by decide)
            have hG_53 := fq_tr hG_43 hGJ_50 (by decide)
            obtain ⟨s_55, hs_55⟩ : ∃ z, TPq I_49 J_50 a0 b_5 b_6 b_7 b_8 b_9 = z := ⟨_, rfl⟩
            obtain ⟨s_56, hs_56⟩ : ∃ z, SPq I_49 J_50 x = z := ⟨_, rfl⟩
            have c_54 : fAll 1 (s_21) (s_45) (s_23) = (x_48, s_55, s_56) := by have q := fx_48; simp only [ebqa1, etqa0, esqx, hs_46, hs_45, hs_47, hs_55, hs_56] at q; exact q.symm
            have hs_57 : TBq I_49 J_50 a1 b_1 b_2 b_3 = s_21 := (bq_fq wbqa1 hFI_49 hGJ_50 (by decide) (by decide)).trans hs_46
            refine g_if_eq C (tgt := 62) dX7_readCond_44 (by decide) (fun h_58 => ?_) (fun h_58 => ?_)
            · skip
              have r_59 := (⟨(rx_48).1, (eq_rg (h_58) rc_0).2⟩ : Rg 0 0 x_48)
              refine g_iconst C (v := 0) dX7_readCond_62 (by decide) ?_
              refine g_istore C dX7_readCond_63 (by decide) (lo2 := [(4, .int 0), (0, .ref x), (1, .ref a0), (2, .ref a1), (3, .int a2), (5, .int v_18)]) rfl ?_
              obtain ⟨x_60, hx_60, rx_60, tx_60⟩ := ex_add (y := 1) 1 20 r_28 rc_1 (by decide) (by decide) (by decide) (by decide)
              refine g_iinc C dX7_readCond_65 (k := 5) (v := x_60) rfl hx_60 (by decide) (lo2 := [(5, .int x_60), (4, .int 0), (0, .ref x), (1, .ref a0), (2, .ref a1), (3, .int a2)]) rfl ?_
              refine g_goto C (tgt := 12) dX7_readCond_68 (by decide) ?_
              refine g_lo (is := [2, 3, 4, 5, 1, 0]) (lo2 := [(0, .ref x), (1, .ref a0), (2, .ref a1), (3, .int a2), (4, .int 0), (5, .int x_60)]) rfl ?_
              exact ih_12 I_49 J_50 hUI_49 hF_52 hG_53 0 (rg_w rc_0 (by decide) (by decide)) x_60 (rg_w rx_60 (by decide) (by decide)) (by (try simp only [h_26, (nle h_26), h_29, hx_33, f_34, (eq_true h_35), c_44, c_54, (eq_true h_58), hx_60, if_true, if_false, bqM_pnm, bqM_par, bqM_dnm, bqM_persons, bqM_dishes, bqM_law, bqM_dogs, TB_.w_pnm, TB_.w_par, TB_.w_dnm, TB_.w_persons, TB_.w_dishes, TB_.w_law, TB_.w_dogs, sqM_sl, sqM_so, SP_.w_sl, SP_.w_so, tqM_by_, tqM_wd, tqM_tk, tqM_pl, tqM_vl, tqM_len, tqM_n, tqM_at_, tqM_token, tqM_place, tqM_value, tqM_fault, tqM_fat, TP_.w_by_, TP_.w_wd, TP_.w_tk, TP_.w_pl, TP_.w_vl, TP_.w_len, TP_.w_n, TP_.w_at_, TP_.w_token, TP_.w_place, TP_.w_value, TP_.w_fault, TP_.w_fat] at hQ_24); (try simp only [h_26, (nle h_26), h_29, hx_33, f_34, (eq_true h_35), c_44, c_54, (eq_true h_58), hx_60, if_true, if_false, bqM_pnm, bqM_par, bqM_dnm, bqM_persons, bqM_dishes, bqM_law, bqM_dogs, TB_.w_pnm, TB_.w_par, TB_.w_dnm, TB_.w_persons, TB_.w_dishes, TB_.w_law, TB_.w_dogs, sqM_sl, sqM_so, SP_.w_sl, SP_.w_so, tqM_by_, tqM_wd, tqM_tk, tqM_pl, tqM_vl, tqM_len, tqM_n, tqM_at_, tqM_token, tqM_place, tqM_value, tqM_fault, tqM_fat, TP_.w_by_, TP_.w_wd, TP_.w_tk, TP_.w_pl, TP_.w_vl, TP_.w_len, TP_.w_n, TP_.w_at_, TP_.w_token, TP_.w_place, TP_.w_value, TP_.w_fault, TP_.w_fat] at u_25); simp only [ebqa1, hs_57, hs_4, etqa0, hs_55, hs_10, esqx, hs_56, hs_11, hQ_24, u_25, h_26, (nle h_26), h_29, hx_33, f_34, (eq_true h_35), c_44, c_54, (eq_true h_58), hx_60, if_true, if_false, bqM_pnm, bqM_par, bqM_dnm, bqM_persons, bqM_dishes, bqM_law, bqM_dogs, TB_.w_pnm, TB_.w_par, TB_.w_dnm, TB_.w_persons, TB_.w_dishes, TB_.w_law, TB_.w_dogs, sqM_sl, sqM_so, SP_.w_sl, SP_.w_so, tqM_by_, tqM_wd, tqM_tk, tqM_pl, tqM_vl, tqM_len, tqM_n, tqM_at_, tqM_token, tqM_place, tqM_value, tqM_fault, tqM_fat, TP_.w_by_, TP_.w_wd, TP_.w_tk, TP_.w_pl, TP_.w_vl, TP_.w_len, TP_.w_n, TP_.w_at_, TP_.w_token, TP_.w_place, TP_.w_value, TP_.w_fault, TP_.w_fat]) (ms_1 hm_20 (ti_k tx_60 rc_1) (by decide))
            · skip
              have n_61 : ¬ x_48 = 0 := h_58
              have r_62 := ne_lo (lo := 1) n_61 rx_48 rc_0 rfl (by decide)
              refine g_aload_n C 0 dX7_readCond_47 rfl rfl ?_
              refine g_bipush C (v := 17) dX7_readCond_48 (by decide) ?_
              refine g_iconst C (v := 0) dX7_readCond_50 (by decide) ?_
              refine g_iconst C (v := 0) dX7_readCond_51 (by decide) ?_
              refine g_callVI C K (c_X7_addStep W9 hLx hkx 17 0 0 (rg_w rc_0 (by decide) (by decide)) hUI_49  (fun q => absurd q (by decide))) hLx hkx (by decide) rfl v_7_63 rfl ⟨rfl, rfl⟩ ⟨Nat.le_of_ble_eq_true rfl, Nat.le_of_ble_eq_true rfl⟩ (Nat.le_of_ble_eq_true rfl) ⟨Nat.le_of_ble_eq_true rfl, Nat.le_of_ble_eq_true rfl⟩ dX7_readCond_52 rfl (st := []) (fun x_63 I_64 J_65 h_66 => ?_)
              obtain ⟨hUI_64, hFI_64, hGJ_65, rx_63, fx_63⟩ := h_66
              have hF_67 := fq_tr hF_52 hFI_64 (by decide)
              have hG_68 := fq_tr hG_53 hGJ_65 (by decide)
              obtain ⟨s_70, hs_70⟩ : ∃ z, SPq I_64 J_65 x = z := ⟨_, rfl⟩
              have c_69 : fAddStep (s_56) = (x_63, s_70) := by have q := fx_63; simp only [esqx, hs_56, hs_70] at q; exact q.symm
              have hs_71 : TBq I_64 J_65 a1 b_1 b_2 b_3 = s_21 := (bq_fq wbqa1 hFI_64 hGJ_65 (by decide) (by decide)).trans hs_57
              have hs_72 : TPq I_64 J_65 a0 b_5 b_6 b_7 b_8 b_9 = s_55 := (tq_fq wtqa0 hFI_64 hGJ_65 (by decide) (by decide)).trans hs_55
              refine g_if_eq C (tgt := 62) dX7_readCond_55 (by decide) (fun h_73 => ?_) (fun h_73 => ?_)
              · skip
                have r_74 := (⟨(rx_63).1, (eq_rg (h_73) rc_0).2⟩ : Rg 0 0 x_63)
                refine g_iconst C (v := 0) dX7_readCond_62 (by decide) ?_
                refine g_istore C dX7_readCond_63 (by decide) (lo2 := [(4, .int 0), (0, .ref x), (1, .ref a0), (2, .ref a1), (3, .int a2), (5, .int v_18)]) rfl ?_
                obtain ⟨x_75, hx_75, rx_75, tx_75⟩ := ex_add (y := 1) 1 20 r_28 rc_1 (by decide) (by decide) (by decide) (by decide)
                refine g_iinc C dX7_readCond_65 (k := 5) (v := x_75) rfl hx_75 (by decide) (lo2 := [(5, .int x_75), (4, .int 0), (0, .ref x), (1, .ref a0), (2, .ref a1), (3, .int a2)]) rfl ?_
                refine g_goto C (tgt := 12) dX7_readCond_68 (by decide) ?_
                refine g_lo (is := [2, 3, 4, 5, 1, 0]) (lo2 := [(0, .ref x), (1, .ref a0), (2, .ref a1), (3, .int a2), (4, .int 0), (5, .int x_75)]) rfl ?_
                exact ih_12 I_64 J_65 hUI_64 hF_67 hG_68 0 (rg_w rc_0 (by decide) (by decide)) x_75 (rg_w rx_75 (by decide) (by decide)) (by (try simp only [h_26, (nle h_26), h_29, hx_33, f_34, (eq_true h_35), c_44, c_54, h_58, c_69, (eq_true h_73), hx_75, if_true, if_false, bqM_pnm, bqM_par, bqM_dnm, bqM_persons, bqM_dishes, bqM_law, bqM_dogs, TB_.w_pnm, TB_.w_par, TB_.w_dnm, TB_.w_persons, TB_.w_dishes, TB_.w_law, TB_.w_dogs, sqM_sl, sqM_so, SP_.w_sl, SP_.w_so, tqM_by_, tqM_wd, tqM_tk, tqM_pl, tqM_vl, tqM_len, tqM_n, tqM_at_, tqM_token, tqM_place, tqM_value, tqM_fault, tqM_fat, TP_.w_by_, TP_.w_wd, TP_.w_tk, TP_.w_pl, TP_.w_vl, TP_.w_len, TP_.w_n, TP_.w_at_, TP_.w_token, TP_.w_place, TP_.w_value, TP_.w_fault, TP_.w_fat] at hQ_24); (try simp only [h_26, (nle h_26), h_29, hx_33, f_34, (eq_true h_35), c_44, c_54, h_58, c_69, (eq_true h_73), hx_75, if_true, if_false, bqM_pnm, bqM_par, bqM_dnm, bqM_persons, bqM_dishes, bqM_law, bqM_dogs, TB_.w_pnm, TB_.w_par, TB_.w_dnm, TB_.w_persons, TB_.w_dishes, TB_.w_law, TB_.w_dogs, sqM_sl, sqM_so, SP_.w_sl, SP_.w_so, tqM_by_, tqM_wd, tqM_tk, tqM_pl, tqM_vl, tqM_len, tqM_n, tqM_at_, tqM_token, tqM_place, tqM_value, tqM_fault, tqM_fat, TP_.w_by_, TP_.w_wd, TP_.w_tk, TP_.w_pl, TP_.w_vl, TP_.w_len, TP_.w_n, TP_.w_at_, TP_.w_token, TP_.w_place, TP_.w_value, TP_.w_fault, TP_.w_fat] at u_25); simp only [ebqa1, hs_71, hs_4, etqa0, hs_72, hs_10, esqx, hs_70, hs_11, hQ_24, u_25, h_26, (nle h_26), h_29, hx_33, f_34, (eq_true h_35), c_44, c_54, h_58, c_69, (eq_true h_73), hx_75, if_true, if_false, bqM_pnm, bqM_par, bqM_dnm, bqM_persons, bqM_dishes, bqM_law, bqM_dogs, TB_.w_pnm, TB_.w_par, TB_.w_dnm, TB_.w_persons, TB_.w_dishes, TB_.w_law, TB_.w_dogs, sqM_sl, sqM_so, SP_.w_sl, SP_.w_so, tqM_by_, tqM_wd, tqM_tk, tqM_pl, tqM_vl, tqM_len, tqM_n, tqM_at_, tqM_token, tqM_place, tqM_value, tqM_fault, tqM_fat, TP_.w_by_, TP_.w_wd, TP_.w_tk, TP_.w_pl, TP_.w_vl, TP_.w_len, TP_.w_n, TP_.w_at_, TP_.w_token, TP_.w_place, TP_.w_value, TP_.w_fault, TP_.w_fat]) (ms_1 hm_20 (ti_k tx_75 rc_1) (by decide))
              · skip
                have n_76 : ¬ x_63 = 0 := h_73
                have r_77 := ne_lo (lo := 1) n_76 rx_63 rc_0 rfl (by decide)
                refine g_iconst C (v := 1) dX7_readCond_58 (by decide) ?_
                refine g_goto C (tgt := 63) dX7_readCond_59 (by decide) ?_
                refine g_istore C dX7_readCond_63 (by decide) (lo2 := [(4, .int 1), (0, .ref x), (1, .ref a0), (2, .ref a1), (3, .int a2), (5, .int v_18)]) rfl ?_
                obtain ⟨x_78, hx_78, rx_78, tx_78⟩ := ex_add (y := 1) 1 20 r_28 rc_1 (by decide) (by decide) (by decide) (by decide)
                refine g_iinc C dX7_readCond_65 (k := 5) (v := x_78) rfl hx_78 (by decide) (lo2 := [(5, .int x_78), (4, .int 1), (0, .ref x), (1, .ref a0), (2, .ref a1), (3, .int a2)]) rfl ?_
                refine g_goto C (tgt := 12) dX7_readCond_68 (by decide) ?_
                refine g_lo (is := [2, 3, 4, 5, 1, 0]) (lo2 := [(0, .ref x), (1, .ref a0), (2, .ref a1), (3, .int a2), (4, .int 1), (5, .int x_78)]) rfl ?_
                exact ih_12 I_64 J_65 hUI_64 hF_67 hG_68 1 (rg_w rc_1 (by decide) (by decide)) x_78 (rg_w rx_78 (by decide) (by decide)) (by (try simp only [h_26, (nle h_26), h_29, hx_33, f_34, (eq_true h_35), c_44, c_54, h_58, c_69, h_73, hx_78, if_true, if_false, bqM_pnm, bqM_par, bqM_dnm, bqM_persons, bqM_dishes, bqM_law, bqM_dogs, TB_.w_pnm, TB_.w_par, TB_.w_dnm, TB_.w_persons, TB_.w_dishes, TB_.w_law, TB_.w_dogs, sqM_sl, sqM_so, SP_.w_sl, SP_.w_so, tqM_by_, tqM_wd, tqM_tk, tqM_pl, tqM_vl, tqM_len, tqM_n, tqM_at_, tqM_token, tqM_place, tqM_value, tqM_fault, tqM_fat, TP_.w_by_, TP_.w_wd, TP_.w_tk, TP_.w_pl, TP_.w_vl, TP_.w_len, TP_.w_n, TP_.w_at_, TP_.w_token, TP_.w_place, TP_.w_value, TP_.w_fault, TP_.w_fat] at hQ_24); (try simp only [h_26, (nle h_26), h_29, hx_33, f_34, (eq_true h_35), c_44, c_54, h_58, c_69, h_73, hx_78, if_true, if_false, bqM_pnm, bqM_par, bqM_dnm, bqM_persons, bqM_dishes, bqM_law, bqM_dogs, TB_.w_pnm, TB_.w_par, TB_.w_dnm, TB_.w_persons, TB_.w_dishes, TB_.w_law, TB_.w_dogs, sqM_sl, sqM_so, SP_.w_sl, SP_.w_so, tqM_by_, tqM_wd, tqM_tk, tqM_pl, tqM_vl, tqM_len, tqM_n, tqM_at_, tqM_token, tqM_place, tqM_value, tqM_fault, tqM_fat, TP_.w_by_, TP_.w_wd, TP_.w_tk, TP_.w_pl, TP_.w_vl, TP_.w_len, TP_.w_n, TP_.w_at_, TP_.w_token, TP_.w_place, TP_.w_value, TP_.w_fault, TP_.w_fat] at u_25); simp only [ebqa1, hs_71, hs_4, etqa0, hs_72, hs_10, esqx, hs_70, hs_11, hQ_24, u_25, h_26, (nle h_26), h_29, hx_33, f_34, (eq_true h_35), c_44, c_54, h_58, c_69, h_73, hx_78, if_true, if_false, bqM_pnm, bqM_par, bqM_dnm, bqM_persons, bqM_dishes, bqM_law, bqM_dogs, TB_.w_pnm, TB_.w_par, TB_.w_dnm, TB_.w_persons, TB_.w_dishes, TB_.w_law, TB_.w_dogs, sqM_sl, sqM_so, SP_.w_sl, SP_.w_so, tqM_by_, tqM_wd, tqM_tk, tqM_pl, tqM_vl, tqM_len, tqM_n, tqM_at_, tqM_token, tqM_place, tqM_value, tqM_fault, tqM_fat, TP_.w_by_, TP_.w_wd, TP_.w_tk, TP_.w_pl, TP_.w_vl, TP_.w_len, TP_.w_n, TP_.w_at_, TP_.w_token, TP_.w_place, TP_.w_value, TP_.w_fault, TP_.w_fat]) (ms_1 hm_20 (ti_k tx_78 rc_1) (by decide))
  refine g_aload_n C 0 dX7_readCond_0 rfl rfl ?_
  refine g_aload_n C 1 dX7_readCond_1 rfl rfl ?_
  refine g_aload_n C 2 dX7_readCond_2 rfl rfl ?_
  refine g_iload_n C 3 dX7_readCond_3 rfl rfl ?_
  refine g_callVI C K (c_X7_readAll_8 W9 hLx hkx hLa0 hka0 hLa1 hka1 a2 (ra2) hU) hLx hkx (by decide) rfl v_7_54 rfl ⟨rfl, rfl⟩ ⟨Nat.le_of_ble_eq_true rfl, Nat.le_of_ble_eq_true rfl⟩ (Nat.le_of_ble_eq_true rfl) ⟨Nat.le_of_ble_eq_true rfl, Nat.le_of_ble_eq_true rfl⟩ dX7_readCond_4 rfl (st := []) (fun x_79 I_80 J_81 h_82 => ?_)
  obtain ⟨hUI_80, hFI_80, hGJ_81, rx_79, fx_79⟩ := h_82
  have hF_83 := fq_tr hF hFI_80 (by decide)
  have hG_84 := fq_tr hG hGJ_81 (by decide)
  obtain ⟨s_86, hs_86⟩ : ∃ z, TPq I_80 J_81 a0 b_5 b_6 b_7 b_8 b_9 = z := ⟨_, rfl⟩
  obtain ⟨s_87, hs_87⟩ : ∃ z, SPq I_80 J_81 x = z := ⟨_, rfl⟩
  have c_85 : fAll 1 (s_4) (s_10) (s_11) = (x_79, s_86, s_87) := by have q := fx_79; simp only [ebqa1, etqa0, esqx, hs_4, hs_10, hs_11, hs_86, hs_87] at q; exact q.symm
  have hs_88 : TBq I_80 J_81 a1 b_1 b_2 b_3 = s_4 := (bq_fq wbqa1 hFI_80 hGJ_81 (by decide) (by decide)).trans hs_4
  refine g_istore C dX7_readCond_7 (by decide) (lo2 := [(4, .int x_79), (0, .ref x), (1, .ref a0), (2, .ref a1), (3, .int a2)]) rfl ?_
  refine g_iconst C (v := 0) dX7_readCond_9 (by decide) ?_
  refine g_istore C dX7_readCond_10 (by decide) (lo2 := [(5, .int 0), (4, .int x_79), (0, .ref x), (1, .ref a0), (2, .ref a1), (3, .int a2)]) rfl ?_
  refine g_lo (is := [2, 3, 4, 5, 1, 0]) (lo2 := [(0, .ref x), (1, .ref a0), (2, .ref a1), (3, .int a2), (4, .int x_79), (5, .int 0)]) rfl ?_
  exact l_12 21 I_80 J_81 hUI_80 hF_83 hG_84 x_79 (rx_79) 0 (rg_w rc_0 (by decide) (by decide)) (by simp only [fCond, ebqa1, hs_88, hs_4, etqa0, hs_86, hs_10, esqx, hs_87, hs_11, c_85, if_true, if_false, bqM_pnm, bqM_par, bqM_dnm, bqM_persons, bqM_dishes, bqM_law, bqM_dogs, TB_.w_pnm, TB_.w_par, TB_.w_dnm, TB_.w_persons, TB_.w_dishes, TB_.w_law, TB_.w_dogs, sqM_sl, sqM_so, SP_.w_sl, SP_.w_so, tqM_by_, tqM_wd, tqM_tk, tqM_pl, tqM_vl, tqM_len, tqM_n, tqM_at_, tqM_token, tqM_place, tqM_value, tqM_fault, tqM_fat, TP_.w_by_, TP_.w_wd, TP_.w_tk, TP_.w_pl, TP_.w_vl, TP_.w_len, TP_.w_n, TP_.w_at_, TP_.w_token, TP_.w_place, TP_.w_value, TP_.w_fault, TP_.w_fat]) (ms_s (a := 0) (b := 20) (N := 21) (rg_w rc_0 (by decide) (by decide)) (by decide))
