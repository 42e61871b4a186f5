theorem dX11_accept_0 : decode cX11_accept 0 = .ok (.aload_n 0, 1) := by decide +kernel
theorem dX11_accept_1 : decode cX11_accept 1 = .ok (.getfield 19, 3) := by decide +kernel
theorem dX11_accept_4 : decode cX11_accept 4 = .ok (.iload_n 1, 1) := by decide +kernel
theorem dX11_accept_5 : decode cX11_accept 5 = .ok (.invokevirtual 133, 3) := by decide +kernel
theorem dX11_accept_8 : decode cX11_accept 8 = .ok (.ifCond .ne 5, 3) := by decide +kernel
theorem dX11_accept_11 : decode cX11_accept 11 = .ok (.iconst (-1), 1) := by decide +kernel
theorem dX11_accept_12 : decode cX11_accept 12 = .ok (.ireturn, 1) := by decide +kernel
theorem dX11_accept_13 : decode cX11_accept 13 = .ok (.aload_n 0, 1) := by decide +kernel
theorem dX11_accept_14 : decode cX11_accept 14 = .ok (.getfield 38, 3) := by decide +kernel
theorem dX11_accept_17 : decode cX11_accept 17 = .ok (.aload_n 0, 1) := by decide +kernel
theorem dX11_accept_18 : decode cX11_accept 18 = .ok (.getfield 28, 3) := by decide +kernel
theorem dX11_accept_21 : decode cX11_accept 21 = .ok (.invokevirtual 225, 3) := by decide +kernel
theorem dX11_accept_24 : decode cX11_accept 24 = .ok (.aload_n 0, 1) := by decide +kernel
theorem dX11_accept_25 : decode cX11_accept 25 = .ok (.aload_n 0, 1) := by decide +kernel
theorem dX11_accept_26 : decode cX11_accept 26 = .ok (.getfield 28, 3) := by decide +kernel
theorem dX11_accept_29 : decode cX11_accept 29 = .ok (.iload_n 1, 1) := by decide +kernel
theorem dX11_accept_30 : decode cX11_accept 30 = .ok (.invokevirtual 244, 3) := by decide +kernel
theorem dX11_accept_33 : decode cX11_accept 33 = .ok (.invokevirtual 232, 3) := by decide +kernel
theorem dX11_accept_36 : decode cX11_accept 36 = .ok (.ireturn, 1) := by decide +kernel
theorem dX11_heir_0 : decode cX11_heir 0 = .ok (.aload_n 0, 1) := by decide +kernel
theorem dX11_heir_1 : decode cX11_heir 1 = .ok (.getfield 19, 3) := by decide +kernel
theorem dX11_heir_4 : decode cX11_heir 4 = .ok (.iload_n 1, 1) := by decide +kernel
theorem dX11_heir_5 : decode cX11_heir 5 = .ok (.invokevirtual 133, 3) := by decide +kernel
theorem dX11_heir_8 : decode cX11_heir 8 = .ok (.ifCond .eq 21, 3) := by decide +kernel
theorem dX11_heir_11 : decode cX11_heir 11 = .ok (.aload_n 0, 1) := by decide +kernel
theorem dX11_heir_12 : decode cX11_heir 12 = .ok (.getfield 28, 3) := by decide +kernel
theorem dX11_heir_15 : decode cX11_heir 15 = .ok (.iload_n 1, 1) := by decide +kernel
theorem dX11_heir_16 : decode cX11_heir 16 = .ok (.aload_n 0, 1) := by decide +kernel
theorem dX11_heir_17 : decode cX11_heir 17 = .ok (.getfield 28, 3) := by decide +kernel
theorem dX11_heir_20 : decode cX11_heir 20 = .ok (.getfield 154, 3) := by decide +kernel
theorem dX11_heir_23 : decode cX11_heir 23 = .ok (.invokevirtual 263, 3) := by decide +kernel
theorem dX11_heir_26 : decode cX11_heir 26 = .ok (.goto 4, 3) := by decide +kernel
theorem dX11_heir_29 : decode cX11_heir 29 = .ok (.iconst (-1), 1) := by decide +kernel
theorem dX11_heir_30 : decode cX11_heir 30 = .ok (.ireturn, 1) := by decide +kernel
theorem dX11_keptIfAny_0 : decode cX11_keptIfAny 0 = .ok (.iload_n 1, 1) := by decide +kernel
theorem dX11_keptIfAny_1 : decode cX11_keptIfAny 1 = .ok (.ifCond .le 10, 3) := by decide +kernel
theorem dX11_keptIfAny_4 : decode cX11_keptIfAny 4 = .ok (.aload_n 0, 1) := by decide +kernel
theorem dX11_keptIfAny_5 : decode cX11_keptIfAny 5 = .ok (.getfield 38, 3) := by decide +kernel
theorem dX11_keptIfAny_8 : decode cX11_keptIfAny 8 = .ok (.invokevirtual 260, 3) := by decide +kernel
theorem dX11_keptIfAny_11 : decode cX11_keptIfAny 11 = .ok (.iload_n 1, 1) := by decide +kernel
theorem dX11_keptIfAny_12 : decode cX11_keptIfAny 12 = .ok (.ireturn, 1) := by decide +kernel
theorem dX11_line_0 : decode cX11_line 0 = .ok (.aload_n 0, 1) := by decide +kernel
theorem dX11_line_1 : decode cX11_line 1 = .ok (.getfield 19, 3) := by decide +kernel
theorem dX11_line_4 : decode cX11_line 4 = .ok (.iload_n 1, 1) := by decide +kernel
theorem dX11_line_5 : decode cX11_line 5 = .ok (.invokevirtual 133, 3) := by decide +kernel
theorem dX11_line_8 : decode cX11_line 8 = .ok (.ifCond .eq 13, 3) := by decide +kernel
theorem dX11_line_11 : decode cX11_line 11 = .ok (.iload_n 2, 1) := by decide +kernel
theorem dX11_line_12 : decode cX11_line 12 = .ok (.ifCond .lt 9, 3) := by decide +kernel
theorem dX11_line_15 : decode cX11_line 15 = .ok (.iload_n 2, 1) := by decide +kernel
theorem dX11_line_16 : decode cX11_line 16 = .ok (.bipush 7, 2) := by decide +kernel
theorem dX11_line_18 : decode cX11_line 18 = .ok (.if_icmp .lt 5, 3) := by decide +kernel
theorem dX11_line_21 : decode cX11_line 21 = .ok (.iconst (-1), 1) := by decide +kernel
theorem dX11_line_22 : decode cX11_line 22 = .ok (.ireturn, 1) := by decide +kernel
theorem dX11_line_23 : decode cX11_line 23 = .ok (.aload_n 0, 1) := by decide +kernel
theorem dX11_line_24 : decode cX11_line 24 = .ok (.getfield 28, 3) := by decide +kernel
theorem dX11_line_27 : decode cX11_line 27 = .ok (.getfield 154, 3) := by decide +kernel
theorem dX11_line_30 : decode cX11_line 30 = .ok (.istore_n 3, 1) := by decide +kernel
theorem dX11_line_31 : decode cX11_line 31 = .ok (.aload_n 0, 1) := by decide +kernel
theorem dX11_line_32 : decode cX11_line 32 = .ok (.getfield 28, 3) := by decide +kernel
theorem dX11_line_35 : decode cX11_line 35 = .ok (.iload_n 1, 1) := by decide +kernel
theorem dX11_line_36 : decode cX11_line 36 = .ok (.iload_n 3, 1) := by decide +kernel
theorem dX11_line_37 : decode cX11_line 37 = .ok (.invokevirtual 263, 3) := by decide +kernel
theorem dX11_line_40 : decode cX11_line 40 = .ok (.istore 4, 2) := by decide +kernel
theorem dX11_line_42 : decode cX11_line 42 = .ok (.iconst 0, 1) := by decide +kernel
theorem dX11_line_43 : decode cX11_line 43 = .ok (.istore 5, 2) := by decide +kernel
theorem dX11_line_45 : decode cX11_line 45 = .ok (.iload 5, 2) := by decide +kernel
theorem dX11_line_47 : decode cX11_line 47 = .ok (.iload_n 2, 1) := by decide +kernel
theorem dX11_line_48 : decode cX11_line 48 = .ok (.if_icmp .ge 33, 3) := by decide +kernel
theorem dX11_line_51 : decode cX11_line 51 = .ok (.iload 4, 2) := by decide +kernel
theorem dX11_line_53 : decode cX11_line 53 = .ok (.iconst (-1), 1) := by decide +kernel
theorem dX11_line_54 : decode cX11_line 54 = .ok (.if_icmp .eq 27, 3) := by decide +kernel
theorem dX11_line_57 : decode cX11_line 57 = .ok (.iload_n 3, 1) := by decide +kernel
theorem dX11_line_58 : decode cX11_line 58 = .ok (.iconst 1, 1) := by decide +kernel
theorem dX11_line_59 : decode cX11_line 59 = .ok (.iload 4, 2) := by decide +kernel
theorem dX11_line_61 : decode cX11_line 61 = .ok (.ishl, 1) := by decide +kernel
theorem dX11_line_62 : decode cX11_line 62 = .ok (.ior, 1) := by decide +kernel
theorem dX11_line_63 : decode cX11_line 63 = .ok (.istore_n 3, 1) := by decide +kernel
theorem dX11_line_64 : decode cX11_line 64 = .ok (.aload_n 0, 1) := by decide +kernel
theorem dX11_line_65 : decode cX11_line 65 = .ok (.getfield 28, 3) := by decide +kernel
theorem dX11_line_68 : decode cX11_line 68 = .ok (.iload_n 1, 1) := by decide +kernel
theorem dX11_line_69 : decode cX11_line 69 = .ok (.iload_n 3, 1) := by decide +kernel
theorem dX11_line_70 : decode cX11_line 70 = .ok (.invokevirtual 263, 3) := by decide +kernel
theorem dX11_line_73 : decode cX11_line 73 = .ok (.istore 4, 2) := by decide +kernel
theorem dX11_line_75 : decode cX11_line 75 = .ok (.iinc 5 1, 3) := by decide +kernel
theorem dX11_line_78 : decode cX11_line 78 = .ok (.goto (-33), 3) := by decide +kernel
theorem dX11_line_81 : decode cX11_line 81 = .ok (.iload 4, 2) := by decide +kernel
theorem dX11_line_83 : decode cX11_line 83 = .ok (.ireturn, 1) := by decide +kernel
theorem dX11_orderAt_0 : decode cX11_orderAt 0 = .ok (.iload_n 1, 1) := by decide +kernel
theorem dX11_orderAt_1 : decode cX11_orderAt 1 = .ok (.ifCond .lt 26, 3) := by decide +kernel
theorem dX11_orderAt_4 : decode cX11_orderAt 4 = .ok (.iload_n 1, 1) := by decide +kernel
theorem dX11_orderAt_5 : decode cX11_orderAt 5 = .ok (.aload_n 0, 1) := by decide +kernel
theorem dX11_orderAt_6 : decode cX11_orderAt 6 = .ok (.getfield 69, 3) := by decide +kernel
theorem dX11_orderAt_9 : decode cX11_orderAt 9 = .ok (.getfield 269, 3) := by decide +kernel
theorem dX11_orderAt_12 : decode cX11_orderAt 12 = .ok (.if_icmp .ge 15, 3) := by decide +kernel
theorem dX11_orderAt_15 : decode cX11_orderAt 15 = .ok (.aload_n 0, 1) := by decide +kernel
theorem dX11_orderAt_16 : decode cX11_orderAt 16 = .ok (.getfield 69, 3) := by decide +kernel
theorem dX11_orderAt_19 : decode cX11_orderAt 19 = .ok (.getfield 272, 3) := by decide +kernel
theorem dX11_orderAt_22 : decode cX11_orderAt 22 = .ok (.iload_n 1, 1) := by decide +kernel
theorem dX11_orderAt_23 : decode cX11_orderAt 23 = .ok (.iaload, 1) := by decide +kernel
theorem dX11_orderAt_24 : decode cX11_orderAt 24 = .ok (.goto 4, 3) := by decide +kernel
theorem dX11_orderAt_27 : decode cX11_orderAt 27 = .ok (.iconst (-1), 1) := by decide +kernel
theorem dX11_orderAt_28 : decode cX11_orderAt 28 = .ok (.ireturn, 1) := by decide +kernel
theorem dX11_refuse_0 : decode cX11_refuse 0 = .ok (.aload_n 0, 1) := by decide +kernel
theorem dX11_refuse_1 : decode cX11_refuse 1 = .ok (.getfield 19, 3) := by decide +kernel
theorem dX11_refuse_4 : decode cX11_refuse 4 = .ok (.iload_n 1, 1) := by decide +kernel
theorem dX11_refuse_5 : decode cX11_refuse 5 = .ok (.invokevirtual 133, 3) := by decide +kernel
theorem dX11_refuse_8 : decode cX11_refuse 8 = .ok (.ifCond .ne 5, 3) := by decide +kernel
theorem dX11_refuse_11 : decode cX11_refuse 11 = .ok (.iconst (-1), 1) := by decide +kernel
theorem dX11_refuse_12 : decode cX11_refuse 12 = .ok (.ireturn, 1) := by decide +kernel
theorem dX11_refuse_13 : decode cX11_refuse 13 = .ok (.aload_n 0, 1) := by decide +kernel
theorem dX11_refuse_14 : decode cX11_refuse 14 = .ok (.getfield 38, 3) := by decide +kernel
theorem dX11_refuse_17 : decode cX11_refuse 17 = .ok (.aload_n 0, 1) := by decide +kernel
theorem dX11_refuse_18 : decode cX11_refuse 18 = .ok (.getfield 28, 3) := by decide +kernel
theorem dX11_refuse_21 : decode cX11_refuse 21 = .ok (.invokevirtual 225, 3) := by decide +kernel
theorem dX11_refuse_24 : decode cX11_refuse 24 = .ok (.aload_n 0, 1) := by decide +kernel
theorem dX11_refuse_25 : decode cX11_refuse 25 = .ok (.aload_n 0, 1) := by decide +kernel
theorem dX11_refuse_26 : decode cX11_refuse 26 = .ok (.getfield 28, 3) := by decide +kernel
theorem dX11_refuse_29 : decode cX11_refuse 29 = .ok (.iload_n 1, 1) := by decide +kernel
theorem dX11_refuse_30 : decode cX11_refuse 30 = .ok (.invokevirtual 241, 3) := by decide +kernel
theorem dX11_refuse_33 : decode cX11_refuse 33 = .ok (.invokevirtual 232, 3) := by decide +kernel
theorem dX11_refuse_36 : decode cX11_refuse 36 = .ok (.ireturn, 1) := by decide +kernel
theorem dX11_undo_0 : decode cX11_undo 0 = .ok (.aload_n 0, 1) := by decide +kernel
theorem dX11_undo_1 : decode cX11_undo 1 = .ok (.getfield 38, 3) := by decide +kernel
theorem dX11_undo_4 : decode cX11_undo 4 = .ok (.aload_n 0, 1) := by decide +kernel
theorem dX11_undo_5 : decode cX11_undo 5 = .ok (.getfield 28, 3) := by decide +kernel
theorem dX11_undo_8 : decode cX11_undo 8 = .ok (.invokevirtual 256, 3) := by decide +kernel
theorem dX11_undo_11 : decode cX11_undo 11 = .ok (.ireturn, 1) := by decide +kernel
theorem dX1_firstBehind_0 : decode cX1_firstBehind 0 = .ok (.iload_n 1, 1) := by decide +kernel
theorem dX1_firstBehind_1 : decode cX1_firstBehind 1 = .ok (.istore_n 3, 1) := by decide +kernel
theorem dX1_firstBehind_2 : decode cX1_firstBehind 2 = .ok (.iconst 1, 1) := by decide +kernel
theorem dX1_firstBehind_3 : decode cX1_firstBehind 3 = .ok (.istore 4, 2) := by decide +kernel
theorem dX1_firstBehind_5 : decode cX1_firstBehind 5 = .ok (.iload 4, 2) := by decide +kernel
theorem dX1_firstBehind_7 : decode cX1_firstBehind 7 = .ok (.aload_n 0, 1) := by decide +kernel
theorem dX1_firstBehind_8 : decode cX1_firstBehind 8 = .ok (.getfield 52, 3) := by decide +kernel
theorem dX1_firstBehind_11 : decode cX1_firstBehind 11 = .ok (.getfield 68, 3) := by decide +kernel
theorem dX1_firstBehind_14 : decode cX1_firstBehind 14 = .ok (.if_icmp .ge 40, 3) := by decide +kernel
theorem dX1_firstBehind_17 : decode cX1_firstBehind 17 = .ok (.iload_n 3, 1) := by decide +kernel
theorem dX1_firstBehind_18 : decode cX1_firstBehind 18 = .ok (.iconst 1, 1) := by decide +kernel
theorem dX1_firstBehind_19 : decode cX1_firstBehind 19 = .ok (.iadd, 1) := by decide +kernel
theorem dX1_firstBehind_20 : decode cX1_firstBehind 20 = .ok (.aload_n 0, 1) := by decide +kernel
theorem dX1_firstBehind_21 : decode cX1_firstBehind 21 = .ok (.getfield 52, 3) := by decide +kernel
theorem dX1_firstBehind_24 : decode cX1_firstBehind 24 = .ok (.getfield 68, 3) := by decide +kernel
theorem dX1_firstBehind_27 : decode cX1_firstBehind 27 = .ok (.if_icmp .ge 9, 3) := by decide +kernel
theorem dX1_firstBehind_30 : decode cX1_firstBehind 30 = .ok (.iload_n 3, 1) := by decide +kernel
theorem dX1_firstBehind_31 : decode cX1_firstBehind 31 = .ok (.iconst 1, 1) := by decide +kernel
theorem dX1_firstBehind_32 : decode cX1_firstBehind 32 = .ok (.iadd, 1) := by decide +kernel
theorem dX1_firstBehind_33 : decode cX1_firstBehind 33 = .ok (.goto 4, 3) := by decide +kernel
theorem dX1_firstBehind_36 : decode cX1_firstBehind 36 = .ok (.iconst 0, 1) := by decide +kernel
theorem dX1_firstBehind_37 : decode cX1_firstBehind 37 = .ok (.istore_n 3, 1) := by decide +kernel
theorem dX1_firstBehind_38 : decode cX1_firstBehind 38 = .ok (.iload_n 2, 1) := by decide +kernel
theorem dX1_firstBehind_39 : decode cX1_firstBehind 39 = .ok (.iload_n 3, 1) := by decide +kernel
theorem dX1_firstBehind_40 : decode cX1_firstBehind 40 = .ok (.ishr, 1) := by decide +kernel
theorem dX1_firstBehind_41 : decode cX1_firstBehind 41 = .ok (.iconst 1, 1) := by decide +kernel
theorem dX1_firstBehind_42 : decode cX1_firstBehind 42 = .ok (.iand, 1) := by decide +kernel
theorem dX1_firstBehind_43 : decode cX1_firstBehind 43 = .ok (.ifCond .eq 5, 3) := by decide +kernel
theorem dX1_firstBehind_46 : decode cX1_firstBehind 46 = .ok (.iload_n 3, 1) := by decide +kernel
theorem dX1_firstBehind_47 : decode cX1_firstBehind 47 = .ok (.ireturn, 1) := by decide +kernel
theorem dX1_firstBehind_48 : decode cX1_firstBehind 48 = .ok (.iinc 4 1, 3) := by decide +kernel
theorem dX1_firstBehind_51 : decode cX1_firstBehind 51 = .ok (.goto (-46), 3) := by decide +kernel
theorem dX1_firstBehind_54 : decode cX1_firstBehind 54 = .ok (.iconst (-1), 1) := by decide +kernel
theorem dX1_firstBehind_55 : decode cX1_firstBehind 55 = .ok (.ireturn, 1) := by decide +kernel
theorem dX1_heirOf_0 : decode cX1_heirOf 0 = .ok (.aload_n 0, 1) := by decide +kernel
theorem dX1_heirOf_1 : decode cX1_heirOf 1 = .ok (.getfield 52, 3) := by decide +kernel
theorem dX1_heirOf_4 : decode cX1_heirOf 4 = .ok (.invokevirtual 62, 3) := by decide +kernel
theorem dX1_heirOf_7 : decode cX1_heirOf 7 = .ok (.aload_n 0, 1) := by decide +kernel
theorem dX1_heirOf_8 : decode cX1_heirOf 8 = .ok (.getfield 30, 3) := by decide +kernel
theorem dX1_heirOf_11 : decode cX1_heirOf 11 = .ok (.iconst (-1), 1) := by decide +kernel
theorem dX1_heirOf_12 : decode cX1_heirOf 12 = .ok (.ixor, 1) := by decide +kernel
theorem dX1_heirOf_13 : decode cX1_heirOf 13 = .ok (.iand, 1) := by decide +kernel
theorem dX1_heirOf_14 : decode cX1_heirOf 14 = .ok (.iload_n 2, 1) := by decide +kernel
theorem dX1_heirOf_15 : decode cX1_heirOf 15 = .ok (.iconst (-1), 1) := by decide +kernel
theorem dX1_heirOf_16 : decode cX1_heirOf 16 = .ok (.ixor, 1) := by decide +kernel
theorem dX1_heirOf_17 : decode cX1_heirOf 17 = .ok (.iand, 1) := by decide +kernel
theorem dX1_heirOf_18 : decode cX1_heirOf 18 = .ok (.iconst 1, 1) := by decide +kernel
theorem dX1_heirOf_19 : decode cX1_heirOf 19 = .ok (.iload_n 1, 1) := by decide +kernel
theorem dX1_heirOf_20 : decode cX1_heirOf 20 = .ok (.ishl, 1) := by decide +kernel
theorem dX1_heirOf_21 : decode cX1_heirOf 21 = .ok (.iconst (-1), 1) := by decide +kernel
theorem dX1_heirOf_22 : decode cX1_heirOf 22 = .ok (.ixor, 1) := by decide +kernel
theorem dX1_heirOf_23 : decode cX1_heirOf 23 = .ok (.iand, 1) := by decide +kernel
theorem dX1_heirOf_24 : decode cX1_heirOf 24 = .ok (.istore_n 3, 1) := by decide +kernel
theorem dX1_heirOf_25 : decode cX1_heirOf 25 = .ok (.aload_n 0, 1) := by decide +kernel
theorem dX1_heirOf_26 : decode cX1_heirOf 26 = .ok (.getfield 52, 3) := by decide +kernel
theorem dX1_heirOf_29 : decode cX1_heirOf 29 = .ok (.getfield 78, 3) := by decide +kernel
theorem dX1_heirOf_32 : decode cX1_heirOf 32 = .ok (.iconst 2, 1) := by decide +kernel
theorem dX1_heirOf_33 : decode cX1_heirOf 33 = .ok (.if_icmp .ne 9, 3) := by decide +kernel
theorem dX1_heirOf_36 : decode cX1_heirOf 36 = .ok (.aload_n 0, 1) := by decide +kernel
theorem dX1_heirOf_37 : decode cX1_heirOf 37 = .ok (.iload_n 3, 1) := by decide +kernel
theorem dX1_heirOf_38 : decode cX1_heirOf 38 = .ok (.invokevirtual 81, 3) := by decide +kernel
theorem dX1_heirOf_41 : decode cX1_heirOf 41 = .ok (.ireturn, 1) := by decide +kernel
theorem dX1_heirOf_42 : decode cX1_heirOf 42 = .ok (.aload_n 0, 1) := by decide +kernel
theorem dX1_heirOf_43 : decode cX1_heirOf 43 = .ok (.getfield 52, 3) := by decide +kernel
theorem dX1_heirOf_46 : decode cX1_heirOf 46 = .ok (.getfield 78, 3) := by decide +kernel
theorem dX1_heirOf_49 : decode cX1_heirOf 49 = .ok (.iconst 1, 1) := by decide +kernel
theorem dX1_heirOf_50 : decode cX1_heirOf 50 = .ok (.if_icmp .ne 16, 3) := by decide +kernel
theorem dX1_heirOf_53 : decode cX1_heirOf 53 = .ok (.iload_n 3, 1) := by decide +kernel
theorem dX1_heirOf_54 : decode cX1_heirOf 54 = .ok (.aload_n 0, 1) := by decide +kernel
theorem dX1_heirOf_55 : decode cX1_heirOf 55 = .ok (.getfield 52, 3) := by decide +kernel
theorem dX1_heirOf_58 : decode cX1_heirOf 58 = .ok (.iload_n 1, 1) := by decide +kernel
theorem dX1_heirOf_59 : decode cX1_heirOf 59 = .ok (.invokevirtual 85, 3) := by decide +kernel
theorem dX1_heirOf_62 : decode cX1_heirOf 62 = .ok (.iand, 1) := by decide +kernel
theorem dX1_heirOf_63 : decode cX1_heirOf 63 = .ok (.goto 4, 3) := by decide +kernel
theorem dX1_heirOf_66 : decode cX1_heirOf 66 = .ok (.iconst 0, 1) := by decide +kernel
theorem dX1_heirOf_67 : decode cX1_heirOf 67 = .ok (.istore 4, 2) := by decide +kernel
theorem dX1_heirOf_69 : decode cX1_heirOf 69 = .ok (.aload_n 0, 1) := by decide +kernel
theorem dX1_heirOf_70 : decode cX1_heirOf 70 = .ok (.iload_n 1, 1) := by decide +kernel
theorem dX1_heirOf_71 : decode cX1_heirOf 71 = .ok (.iload 4, 2) := by decide +kernel
theorem dX1_heirOf_73 : decode cX1_heirOf 73 = .ok (.ifCond .eq 8, 3) := by decide +kernel
theorem dX1_heirOf_76 : decode cX1_heirOf 76 = .ok (.iload 4, 2) := by decide +kernel
theorem dX1_heirOf_78 : decode cX1_heirOf 78 = .ok (.goto 4, 3) := by decide +kernel
theorem dX1_heirOf_81 : decode cX1_heirOf 81 = .ok (.iload_n 3, 1) := by decide +kernel
theorem dX1_heirOf_82 : decode cX1_heirOf 82 = .ok (.invokevirtual 88, 3) := by decide +kernel
theorem dX1_heirOf_85 : decode cX1_heirOf 85 = .ok (.ireturn, 1) := by decide +kernel
theorem dX1_leastFed_0 : decode cX1_leastFed 0 = .ok (.iconst (-1), 1) := by decide +kernel
theorem dX1_leastFed_1 : decode cX1_leastFed 1 = .ok (.istore_n 2, 1) := by decide +kernel
theorem dX1_leastFed_2 : decode cX1_leastFed 2 = .ok (.iconst 0, 1) := by decide +kernel
theorem dX1_leastFed_3 : decode cX1_leastFed 3 = .ok (.istore_n 3, 1) := by decide +kernel
theorem dX1_leastFed_4 : decode cX1_leastFed 4 = .ok (.iload_n 3, 1) := by decide +kernel
theorem dX1_leastFed_5 : decode cX1_leastFed 5 = .ok (.aload_n 0, 1) := by decide +kernel
theorem dX1_leastFed_6 : decode cX1_leastFed 6 = .ok (.getfield 52, 3) := by decide +kernel
theorem dX1_leastFed_9 : decode cX1_leastFed 9 = .ok (.getfield 68, 3) := by decide +kernel
theorem dX1_leastFed_12 : decode cX1_leastFed 12 = .ok (.if_icmp .ge 39, 3) := by decide +kernel
theorem dX1_leastFed_15 : decode cX1_leastFed 15 = .ok (.iload_n 1, 1) := by decide +kernel
theorem dX1_leastFed_16 : decode cX1_leastFed 16 = .ok (.iload_n 3, 1) := by decide +kernel
theorem dX1_leastFed_17 : decode cX1_leastFed 17 = .ok (.ishr, 1) := by decide +kernel
theorem dX1_leastFed_18 : decode cX1_leastFed 18 = .ok (.iconst 1, 1) := by decide +kernel
theorem dX1_leastFed_19 : decode cX1_leastFed 19 = .ok (.iand, 1) := by decide +kernel
theorem dX1_leastFed_20 : decode cX1_leastFed 20 = .ok (.ifCond .eq 25, 3) := by decide +kernel
theorem dX1_leastFed_23 : decode cX1_leastFed 23 = .ok (.iload_n 2, 1) := by decide +kernel
theorem dX1_leastFed_24 : decode cX1_leastFed 24 = .ok (.iconst (-1), 1) := by decide +kernel
theorem dX1_leastFed_25 : decode cX1_leastFed 25 = .ok (.if_icmp .eq 18, 3) := by decide +kernel
theorem dX1_leastFed_28 : decode cX1_leastFed 28 = .ok (.aload_n 0, 1) := by decide +kernel
theorem dX1_leastFed_29 : decode cX1_leastFed 29 = .ok (.getfield 21, 3) := by decide +kernel
theorem dX1_leastFed_32 : decode cX1_leastFed 32 = .ok (.iload_n 3, 1) := by decide +kernel
theorem dX1_leastFed_33 : decode cX1_leastFed 33 = .ok (.iaload, 1) := by decide +kernel
theorem dX1_leastFed_34 : decode cX1_leastFed 34 = .ok (.aload_n 0, 1) := by decide +kernel
theorem dX1_leastFed_35 : decode cX1_leastFed 35 = .ok (.getfield 21, 3) := by decide +kernel
theorem dX1_leastFed_38 : decode cX1_leastFed 38 = .ok (.iload_n 2, 1) := by decide +kernel
theorem dX1_leastFed_39 : decode cX1_leastFed 39 = .ok (.iaload, 1) := by decide +kernel
theorem dX1_leastFed_40 : decode cX1_leastFed 40 = .ok (.if_icmp .ge 5, 3) := by decide +kernel
theorem dX1_leastFed_43 : decode cX1_leastFed 43 = .ok (.iload_n 3, 1) := by decide +kernel
theorem dX1_leastFed_44 : decode cX1_leastFed 44 = .ok (.istore_n 2, 1) := by decide +kernel
theorem dX1_leastFed_45 : decode cX1_leastFed 45 = .ok (.iinc 3 1, 3) := by decide +kernel
theorem dX1_leastFed_48 : decode cX1_leastFed 48 = .ok (.goto (-44), 3) := by decide +kernel
theorem dX1_leastFed_51 : decode cX1_leastFed 51 = .ok (.iload_n 2, 1) := by decide +kernel
theorem dX1_leastFed_52 : decode cX1_leastFed 52 = .ok (.ireturn, 1) := by decide +kernel
theorem dX1_living_0 : decode cX1_living 0 = .ok (.aload_n 0, 1) := by decide +kernel
theorem dX1_living_1 : decode cX1_living 1 = .ok (.getfield 52, 3) := by decide +kernel
theorem dX1_living_4 : decode cX1_living 4 = .ok (.invokevirtual 62, 3) := by decide +kernel
theorem dX1_living_7 : decode cX1_living 7 = .ok (.aload_n 0, 1) := by decide +kernel
theorem dX1_living_8 : decode cX1_living 8 = .ok (.getfield 30, 3) := by decide +kernel
theorem dX1_living_11 : decode cX1_living 11 = .ok (.iconst (-1), 1) := by decide +kernel
theorem dX1_living_12 : decode cX1_living 12 = .ok (.ixor, 1) := by decide +kernel
theorem dX1_living_13 : decode cX1_living 13 = .ok (.iand, 1) := by decide +kernel
theorem dX1_living_14 : decode cX1_living 14 = .ok (.ireturn, 1) := by decide +kernel
theorem dX1_tryToAccept_0 : decode cX1_tryToAccept 0 = .ok (.aload_n 0, 1) := by decide +kernel
theorem dX1_tryToAccept_1 : decode cX1_tryToAccept 1 = .ok (.iload_n 1, 1) := by decide +kernel
theorem dX1_tryToAccept_2 : decode cX1_tryToAccept 2 = .ok (.invokevirtual 115, 3) := by decide +kernel
theorem dX1_tryToAccept_5 : decode cX1_tryToAccept 5 = .ok (.ifCond .ne 5, 3) := by decide +kernel
theorem dX1_tryToAccept_8 : decode cX1_tryToAccept 8 = .ok (.iconst 1, 1) := by decide +kernel
theorem dX1_tryToAccept_9 : decode cX1_tryToAccept 9 = .ok (.ireturn, 1) := by decide +kernel
theorem dX1_tryToAccept_10 : decode cX1_tryToAccept 10 = .ok (.aload_n 0, 1) := by decide +kernel
theorem dX1_tryToAccept_11 : decode cX1_tryToAccept 11 = .ok (.getfield 34, 3) := by decide +kernel
theorem dX1_tryToAccept_14 : decode cX1_tryToAccept 14 = .ok (.iload_n 1, 1) := by decide +kernel
theorem dX1_tryToAccept_15 : decode cX1_tryToAccept 15 = .ok (.ishr, 1) := by decide +kernel
theorem dX1_tryToAccept_16 : decode cX1_tryToAccept 16 = .ok (.iconst 1, 1) := by decide +kernel
theorem dX1_tryToAccept_17 : decode cX1_tryToAccept 17 = .ok (.iand, 1) := by decide +kernel
theorem dX1_tryToAccept_18 : decode cX1_tryToAccept 18 = .ok (.ifCond .ne 5, 3) := by decide +kernel
theorem dX1_tryToAccept_21 : decode cX1_tryToAccept 21 = .ok (.iconst 2, 1) := by decide +kernel
theorem dX1_tryToAccept_22 : decode cX1_tryToAccept 22 = .ok (.ireturn, 1) := by decide +kernel
theorem dX1_tryToAccept_23 : decode cX1_tryToAccept 23 = .ok (.aload_n 0, 1) := by decide +kernel
theorem dX1_tryToAccept_24 : decode cX1_tryToAccept 24 = .ok (.dup, 1) := by decide +kernel
theorem dX1_tryToAccept_25 : decode cX1_tryToAccept 25 = .ok (.getfield 34, 3) := by decide +kernel
theorem dX1_tryToAccept_28 : decode cX1_tryToAccept 28 = .ok (.iconst 1, 1) := by decide +kernel
theorem dX1_tryToAccept_29 : decode cX1_tryToAccept 29 = .ok (.iload_n 1, 1) := by decide +kernel
theorem dX1_tryToAccept_30 : decode cX1_tryToAccept 30 = .ok (.ishl, 1) := by decide +kernel
theorem dX1_tryToAccept_31 : decode cX1_tryToAccept 31 = .ok (.iconst (-1), 1) := by decide +kernel
theorem dX1_tryToAccept_32 : decode cX1_tryToAccept 32 = .ok (.ixor, 1) := by decide +kernel
theorem dX1_tryToAccept_33 : decode cX1_tryToAccept 33 = .ok (.iand, 1) := by decide +kernel
theorem dX1_tryToAccept_34 : decode cX1_tryToAccept 34 = .ok (.putfield 34, 3) := by decide +kernel
theorem dX1_tryToAccept_37 : decode cX1_tryToAccept 37 = .ok (.iconst 0, 1) := by decide +kernel
theorem dX1_tryToAccept_38 : decode cX1_tryToAccept 38 = .ok (.ireturn, 1) := by decide +kernel
theorem dX5_takeBack_0 : decode cX5_takeBack 0 = .ok (.aload_n 0, 1) := by decide +kernel
theorem dX5_takeBack_1 : decode cX5_takeBack 1 = .ok (.getfield 17, 3) := by decide +kernel
theorem dX5_takeBack_4 : decode cX5_takeBack 4 = .ok (.ifCond .ne 5, 3) := by decide +kernel
theorem dX5_takeBack_7 : decode cX5_takeBack 7 = .ok (.iconst (-1), 1) := by decide +kernel
theorem dX5_takeBack_8 : decode cX5_takeBack 8 = .ok (.ireturn, 1) := by decide +kernel
theorem dX5_takeBack_9 : decode cX5_takeBack 9 = .ok (.aload_n 0, 1) := by decide +kernel
theorem dX5_takeBack_10 : decode cX5_takeBack 10 = .ok (.dup, 1) := by decide +kernel
theorem dX5_takeBack_11 : decode cX5_takeBack 11 = .ok (.getfield 17, 3) := by decide +kernel
theorem dX5_takeBack_14 : decode cX5_takeBack 14 = .ok (.iconst 1, 1) := by decide +kernel
theorem dX5_takeBack_15 : decode cX5_takeBack 15 = .ok (.isub, 1) := by decide +kernel
theorem dX5_takeBack_16 : decode cX5_takeBack 16 = .ok (.putfield 17, 3) := by decide +kernel
theorem dX5_takeBack_19 : decode cX5_takeBack 19 = .ok (.aload_n 0, 1) := by decide +kernel
theorem dX5_takeBack_20 : decode cX5_takeBack 20 = .ok (.aload_n 0, 1) := by decide +kernel
theorem dX5_takeBack_21 : decode cX5_takeBack 21 = .ok (.getfield 21, 3) := by decide +kernel
theorem dX5_takeBack_24 : decode cX5_takeBack 24 = .ok (.ifCond .le 12, 3) := by decide +kernel
theorem dX5_takeBack_27 : decode cX5_takeBack 27 = .ok (.aload_n 0, 1) := by decide +kernel
theorem dX5_takeBack_28 : decode cX5_takeBack 28 = .ok (.getfield 21, 3) := by decide +kernel
theorem dX5_takeBack_31 : decode cX5_takeBack 31 = .ok (.iconst 1, 1) := by decide +kernel
theorem dX5_takeBack_32 : decode cX5_takeBack 32 = .ok (.isub, 1) := by decide +kernel
theorem dX5_takeBack_33 : decode cX5_takeBack 33 = .ok (.goto 5, 3) := by decide +kernel
theorem dX5_takeBack_36 : decode cX5_takeBack 36 = .ok (.bipush 8, 2) := by decide +kernel
theorem dX5_takeBack_38 : decode cX5_takeBack 38 = .ok (.putfield 21, 3) := by decide +kernel
theorem dX5_takeBack_41 : decode cX5_takeBack 41 = .ok (.aload_n 1, 1) := by decide +kernel
theorem dX5_takeBack_42 : decode cX5_takeBack 42 = .ok (.aload_n 0, 1) := by decide +kernel
theorem dX5_takeBack_43 : decode cX5_takeBack 43 = .ok (.getfield 13, 3) := by decide +kernel
theorem dX5_takeBack_46 : decode cX5_takeBack 46 = .ok (.aload_n 0, 1) := by decide +kernel
theorem dX5_takeBack_47 : decode cX5_takeBack 47 = .ok (.getfield 21, 3) := by decide +kernel
theorem dX5_takeBack_50 : decode cX5_takeBack 50 = .ok (.aaload, 1) := by decide +kernel
theorem dX5_takeBack_51 : decode cX5_takeBack 51 = .ok (.invokevirtual 27, 3) := by decide +kernel
theorem dX5_takeBack_54 : decode cX5_takeBack 54 = .ok (.aload_n 0, 1) := by decide +kernel
theorem dX5_takeBack_55 : decode cX5_takeBack 55 = .ok (.getfield 17, 3) := by decide +kernel
theorem dX5_takeBack_58 : decode cX5_takeBack 58 = .ok (.ireturn, 1) := by decide +kernel
theorem dX8_childrenOf_0 : decode cX8_childrenOf 0 = .ok (.iconst 0, 1) := by decide +kernel
theorem dX8_childrenOf_1 : decode cX8_childrenOf 1 = .ok (.istore_n 2, 1) := by decide +kernel
theorem dX8_childrenOf_2 : decode cX8_childrenOf 2 = .ok (.iconst 0, 1) := by decide +kernel
theorem dX8_childrenOf_3 : decode cX8_childrenOf 3 = .ok (.istore_n 3, 1) := by decide +kernel
theorem dX8_childrenOf_4 : decode cX8_childrenOf 4 = .ok (.iload_n 3, 1) := by decide +kernel
theorem dX8_childrenOf_5 : decode cX8_childrenOf 5 = .ok (.aload_n 0, 1) := by decide +kernel
theorem dX8_childrenOf_6 : decode cX8_childrenOf 6 = .ok (.getfield 28, 3) := by decide +kernel
theorem dX8_childrenOf_9 : decode cX8_childrenOf 9 = .ok (.if_icmp .ge 25, 3) := by decide +kernel
theorem dX8_childrenOf_12 : decode cX8_childrenOf 12 = .ok (.aload_n 0, 1) := by decide +kernel
theorem dX8_childrenOf_13 : decode cX8_childrenOf 13 = .ok (.getfield 19, 3) := by decide +kernel
theorem dX8_childrenOf_16 : decode cX8_childrenOf 16 = .ok (.iload_n 3, 1) := by decide +kernel
theorem dX8_childrenOf_17 : decode cX8_childrenOf 17 = .ok (.iaload, 1) := by decide +kernel
theorem dX8_childrenOf_18 : decode cX8_childrenOf 18 = .ok (.iload_n 1, 1) := by decide +kernel
theorem dX8_childrenOf_19 : decode cX8_childrenOf 19 = .ok (.if_icmp .ne 9, 3) := by decide +kernel
theorem dX8_childrenOf_22 : decode cX8_childrenOf 22 = .ok (.iload_n 2, 1) := by decide +kernel
theorem dX8_childrenOf_23 : decode cX8_childrenOf 23 = .ok (.iconst 1, 1) := by decide +kernel
theorem dX8_childrenOf_24 : decode cX8_childrenOf 24 = .ok (.iload_n 3, 1) := by decide +kernel
theorem dX8_childrenOf_25 : decode cX8_childrenOf 25 = .ok (.ishl, 1) := by decide +kernel
theorem dX8_childrenOf_26 : decode cX8_childrenOf 26 = .ok (.ior, 1) := by decide +kernel
theorem dX8_childrenOf_27 : decode cX8_childrenOf 27 = .ok (.istore_n 2, 1) := by decide +kernel
theorem dX8_childrenOf_28 : decode cX8_childrenOf 28 = .ok (.iinc 3 1, 3) := by decide +kernel
theorem dX8_childrenOf_31 : decode cX8_childrenOf 31 = .ok (.goto (-27), 3) := by decide +kernel
theorem dX8_childrenOf_34 : decode cX8_childrenOf 34 = .ok (.iload_n 2, 1) := by decide +kernel
theorem dX8_childrenOf_35 : decode cX8_childrenOf 35 = .ok (.ireturn, 1) := by decide +kernel
set_option maxRecDepth 100000 in
set_option maxHeartbeats 8000000 in
theorem c_X11_refuse {l : Launch} {D : va_G} {cy : Nat → ClassId} {L : List Nat} {κ ln : Nat → Nat} {R : Nat → Nat → Option Nat} {I : Nat → Nat → Int32} {J : Nat → Nat → Int64} {ow : Nat → Nat × Nat} (W9 : ∀ a ∈ L, Shp L κ ln R ow a) {x : Nat} (hLx : x ∈ L) (hkx : κ x = 11) (a0 : Int32) (hU : Uv L κ ow I) : CtI l yX11_refuse cX11_refuse 2 (some .int) { frames := 3, cells := 0, slots := 0, locals := 102 } D cy L κ ln R I J [.ref x, .int a0] (fun r I2 J2 => Uv L κ ow I2 ∧ Fq L κ ow [107, 108, 109, 110, 111, 112, 501, 502, 16100, 16200, 16300, 16400, 16500, 16600] I I2 ∧ Fq L κ ow [] J J2 ∧ Rg (-1) 3 r) := by
  refine CtI.of (by decide +kernel) (Nat.le_of_ble_eq_true rfl) ?_
  intro p e s m below meth c B K
  have C := B.1
  have hF : Fq L κ ow [107, 108, 109, 110, 111, 112, 501, 502, 16100, 16200, 16300, 16400, 16500, 16600] I I := fq_rf
  have hG : Fq L κ ow [] J J := fq_rf
  obtain ⟨b_407561, hb_407561, hb_407561L, hb_407561k⟩ := shp_o (W9 x hLx) hkx 1 8 rfl (by decide)
  obtain ⟨b_407562, hb_407562, hb_407562L, hb_407562k⟩ := shp_o (W9 x hLx) hkx 2 1 rfl (by decide)
  obtain ⟨b_407563, hb_407563, hb_407563L, hb_407563k⟩ := shp_o (W9 x hLx) hkx 4 5 rfl (by decide)
  refine g_lo (is := [0, 1]) (lo2 := [(0, .ref x), (1, .int a0)]) rfl ?_
  refine g_aload_n C 0 dX11_refuse_0 rfl rfl ?_
  refine g_getR C K hLx hkx f_11_19 hb_407561 dX11_refuse_1 ?_
  refine g_iload_n C 1 dX11_refuse_4 rfl rfl ?_
  refine g_callVI C K (c_X8_hasPerson W9 hb_407561L hb_407561k a0  hU) hb_407561L hb_407561k (by decide) rfl v_11_133 rfl ⟨rfl, rfl⟩ ⟨Nat.le_of_ble_eq_true rfl, Nat.le_of_ble_eq_true rfl⟩ (Nat.le_of_ble_eq_true rfl) ⟨Nat.le_of_ble_eq_true rfl, Nat.le_of_ble_eq_true rfl⟩ dX11_refuse_5 rfl (st := []) (fun x_407564 I_407565 J_407566 h_407567 => ?_)
  obtain ⟨rfl, rfl, rx_407564, ex_407564⟩ := h_407567
  refine g_if_ne C (tgt := 13) dX11_refuse_8 (by decide) (fun h_407568 => ?_) (fun h_407568 => ?_)
  · skip
    have n_407569 : ¬ x_407564 = 0 := h_407568
    have r_407570 := ne_lo (lo := 1) n_407569 rx_407564 rc_0 rfl (by decide)
    have r_407571 := rg_i (rg_all a0) ((ex_407564) (rg_nz r_407570 (by decide))) (lo := 0) (hi := 6) (by decide) (by decide)
    refine g_aload_n C 0 dX11_refuse_13 rfl rfl ?_
    refine g_getR C K hLx hkx f_11_38 hb_407563 dX11_refuse_14 ?_
    refine g_aload_n C 0 dX11_refuse_17 rfl rfl ?_
    refine g_getR C K hLx hkx f_11_28 hb_407562 dX11_refuse_18 ?_
    refine g_callVV C K (c_X5_note W9 hb_407563L hb_407563k hb_407562L hb_407562k  hU) hb_407563L hb_407563k (by decide) rfl v_11_225 rfl ⟨rfl, rfl⟩ ⟨Nat.le_of_ble_eq_true rfl, Nat.le_of_ble_eq_true rfl⟩ (Nat.le_of_ble_eq_true rfl) ⟨Nat.le_of_ble_eq_true rfl, Nat.le_of_ble_eq_true rfl⟩ dX11_refuse_21 rfl (st := []) (fun I_407573 J_407574 h_407575 => ?_)
    obtain ⟨hUI_407573, hFI_407573, hGJ_407574⟩ := h_407575
    have hF_407576 := fq_tr hF hFI_407573 (by decide)
    have hG_407577 := fq_tr hG hGJ_407574 (by decide)
    refine g_aload_n C 0 dX11_refuse_24 rfl rfl ?_
    refine g_aload_n C 0 dX11_refuse_25 rfl rfl ?_
    refine g_getR C K hLx hkx f_11_28 hb_407562 dX11_refuse_26 ?_
    refine g_iload_n C 1 dX11_refuse_29 rfl rfl ?_
    refine g_callVI C K (c_X1_tryToRefuse W9 hb_407562L hb_407562k a0 (rg_w r_407571 (by decide) (by decide)) hUI_407573) hb_407562L hb_407562k (by decide) rfl v_11_241 rfl ⟨rfl, rfl⟩ ⟨Nat.le_of_ble_eq_true rfl, Nat.le_of_ble_eq_true rfl⟩ (Nat.le_of_ble_eq_true rfl) ⟨Nat.le_of_ble_eq_true rfl, Nat.le_of_ble_eq_true rfl⟩ dX11_refuse_30 rfl (st := [.ref x]) (fun x_407578 I_407579 J_407580 h_407581 => ?_)
    obtain ⟨hUI_407579, hFI_407579, hGJ_407580, rx_407578⟩ := h_407581
    have hF_407582 := fq_tr hF_407576 hFI_407579 (by decide)
    have hG_407583 := fq_tr hG_407577 hGJ_407580 (by decide)
    refine g_callVI C K (c_X11_keptIfDone W9 hLx hkx x_407578 (rg_w rx_407578 (by decide) (by decide)) hUI_407579) hLx hkx (by decide) rfl v_11_232 rfl ⟨rfl, rfl⟩ ⟨Nat.le_of_ble_eq_true rfl, Nat.le_of_ble_eq_true rfl⟩ (Nat.le_of_ble_eq_true rfl) ⟨Nat.le_of_ble_eq_true rfl, Nat.le_of_ble_eq_true rfl⟩ dX11_refuse_33 rfl (st := []) (fun x_407584 I_407585 J_407586 h_407587 => ?_)
    obtain ⟨hUI_407585, hFI_407585, hGJ_407586, rx_407584⟩ := h_407587
    have hF_407588 := fq_tr hF_407582 hFI_407585 (by decide)
    have hG_407589 := fq_tr hG_407583 hGJ_407586 (by decide)
    exact g_zret (ty := .int) (r := x_407584) B K rfl (rfl) ⟨hUI_407585, hF_407588, hG_407589, rg_w rx_407584 (by decide) (by decide)⟩ dX11_refuse_36
  · skip
    have r_407590 := (⟨(rx_407564).1, (eq_rg (h_407568) rc_0).2⟩ : Rg 0 0 x_407564)
    refine g_iconst C (v := (-1)) dX11_refuse_11 (by decide) ?_
    exact g_zret (ty := .int) (r := (-1)) B K rfl (rfl) ⟨hU, hF, hG, rg_w rc_m1 (by decide) (by decide)⟩ dX11_refuse_12
set_option maxRecDepth 100000 in
set_option maxHeartbeats 8000000 in
theorem c_X1_tryToAccept {l : Launch} {D : va_G} {cy : Nat → ClassId} {L : List Nat} {κ ln : Nat → Nat} {R : Nat → Nat → Option Nat} {I : Nat → Nat → Int32} {J : Nat → Nat → Int64} {ow : Nat → Nat × Nat} (W9 : ∀ a ∈ L, Shp L κ ln R ow a) {x : Nat} (hLx : x ∈ L) (hkx : κ x = 1) (a0 : Int32) (ra0 : Rg (-1) 6 a0) (hU : Uv L κ ow I) : CtI l yX1_tryToAccept cX1_tryToAccept 2 (some .int) { frames := 1, cells := 0, slots := 0, locals := 21 } D cy L κ ln R I J [.ref x, .int a0] (fun r I2 J2 => Uv L κ ow I2 ∧ Fq L κ ow [108] I I2 ∧ Fq L κ ow [] J J2 ∧ Rg 0 2 r) := by
  refine CtI.of (by decide +kernel) (Nat.le_of_ble_eq_true rfl) ?_
  intro p e s m below meth c B K
  have C := B.1
  have hF : Fq L κ ow [108] I I := fq_rf
  have hG : Fq L κ ow [] J J := fq_rf
  refine g_lo (is := [0, 1]) (lo2 := [(0, .ref x), (1, .int a0)]) rfl ?_
  refine g_aload_n C 0 dX1_tryToAccept_0 rfl rfl ?_
  refine g_iload_n C 1 dX1_tryToAccept_1 rfl rfl ?_
  refine g_callVI C K (c_X1_lives W9 hLx hkx a0 (ra0) hU) hLx hkx (by decide) rfl v_1_115 rfl ⟨rfl, rfl⟩ ⟨Nat.le_of_ble_eq_true rfl, Nat.le_of_ble_eq_true rfl⟩ (Nat.le_of_ble_eq_true rfl) ⟨Nat.le_of_ble_eq_true rfl, Nat.le_of_ble_eq_true rfl⟩ dX1_tryToAccept_2 rfl (st := []) (fun x_407633 I_407634 J_407635 h_407636 => ?_)
  obtain ⟨rfl, rfl, rx_407633⟩ := h_407636
  refine g_if_ne C (tgt := 10) dX1_tryToAccept_5 (by decide) (fun h_407637 => ?_) (fun h_407637 => ?_)
  · skip
    have n_407638 : ¬ x_407633 = 0 := h_407637
    have r_407639 := ne_lo (lo := 1) n_407638 rx_407633 rc_0 rfl (by decide)
    refine g_aload_n C 0 dX1_tryToAccept_10 rfl rfl ?_
    obtain ⟨x_407640, hx_407640, rx_407640⟩ := ex_get (I := I) (a := x) (j := 8) (lo := (-2147483648)) (hi := 2147483647) hU hLx (ro_o hkx (by decide)) rfl
    refine g_getI C K hLx hkx f_1_34 (v := x_407640) hx_407640 dX1_tryToAccept_11 ?_
    refine g_iload_n C 1 dX1_tryToAccept_14 rfl rfl ?_
    obtain ⟨x_407641, hx_407641, rx_407641⟩ := ex_any (z0 := x_407640 >>> (a0 &&& 31))
    refine g_ishr C (v := x_407641) dX1_tryToAccept_15 hx_407641 ?_
    refine g_iconst C (v := 1) dX1_tryToAccept_16 (by decide) ?_
    obtain ⟨x_407642, hx_407642, rx_407642⟩ := ex_andr (x := x_407641) (y := 1) (b := 1) (rg_w rc_1 (by decide) (by decide))
    refine g_iand C (v := x_407642) dX1_tryToAccept_17 hx_407642 ?_
    refine g_if_ne C (tgt := 23) dX1_tryToAccept_18 (by decide) (fun h_407643 => ?_) (fun h_407643 => ?_)
    · skip
      have n_407644 : ¬ x_407642 = 0 := h_407643
      have r_407645 := ne_lo (lo := 1) n_407644 rx_407642 rc_0 rfl (by decide)
      refine g_aload_n C 0 dX1_tryToAccept_23 rfl rfl ?_
      refine g_dup C dX1_tryToAccept_24 rfl ?_
      refine g_getI C K hLx hkx f_1_34 (v := x_407640) hx_407640 dX1_tryToAccept_25 ?_
      refine g_iconst C (v := 1) dX1_tryToAccept_28 (by decide) ?_
      refine g_iload_n C 1 dX1_tryToAccept_29 rfl rfl ?_
      obtain ⟨x_407646, hx_407646, rx_407646⟩ := ex_any (z0 := 1 <<< (a0 &&& 31))
      refine g_ishl C (v := x_407646) dX1_tryToAccept_30 hx_407646 ?_
      refine g_iconst C (v := (-1)) dX1_tryToAccept_31 (by decide) ?_
      obtain ⟨x_407647, hx_407647, rx_407647⟩ := ex_any (z0 := x_407646 ^^^ (-1))
      refine g_ixor C (v := x_407647) dX1_tryToAccept_32 hx_407647 ?_
      obtain ⟨x_407648, hx_407648, rx_407648⟩ := ex_any (z0 := x_407640 &&& x_407647)
      refine g_iand C (v := x_407648) dX1_tryToAccept_33 hx_407648 ?_
      refine h_putI C K hLx hkx f_1_34 p_1_8 dX1_tryToAccept_34 (fun I_407649 hI_407649 => ?_)
      have hU_407650 := uv_put hU hI_407649 (ro_o hkx (by decide)) (lo := (-2147483648)) (hi := 2147483647) rfl (rx_407648)
      have hF_407651 := fq_puto hF hI_407649 hkx (by decide) (by decide)
      refine g_iconst C (v := 0) dX1_tryToAccept_37 (by decide) ?_
      exact g_zret (ty := .int) (r := 0) B K rfl (rfl) ⟨hU_407650, hF_407651, hG, rg_w rc_0 (by decide) (by decide)⟩ dX1_tryToAccept_38
    · skip
      have r_407652 := (⟨(rx_407642).1, (eq_rg (h_407643) rc_0).2⟩ : Rg 0 0 x_407642)
      refine g_iconst C (v := 2) dX1_tryToAccept_21 (by decide) ?_
      exact g_zret (ty := .int) (r := 2) B K rfl (rfl) ⟨hU, hF, hG, rg_w rc_2 (by decide) (by decide)⟩ dX1_tryToAccept_22
  · skip
    have r_407653 := (⟨(rx_407633).1, (eq_rg (h_407637) rc_0).2⟩ : Rg 0 0 x_407633)
    refine g_iconst C (v := 1) dX1_tryToAccept_8 (by decide) ?_
    exact g_zret (ty := .int) (r := 1) B K rfl (rfl) ⟨hU, hF, hG, rg_w rc_1 (by decide) (by decide)⟩ dX1_tryToAccept_9
set_option maxRecDepth 100000 in
set_option maxHeartbeats 8000000 in
theorem c_X11_accept {l : Launch} {D : va_G} {cy : Nat → ClassId} {L : List Nat} {κ ln : Nat → Nat} {R : Nat → Nat → Option Nat} {I : Nat → Nat → Int32} {J : Nat → Nat → Int64} {ow : Nat → Nat × Nat} (W9 : ∀ a ∈ L, Shp L κ ln R ow a) {x : Nat} (hLx : x ∈ L) (hkx : κ x = 11) (a0 : Int32) (hU : Uv L κ ow I) : CtI l yX11_accept cX11_accept 2 (some .int) { frames := 3, cells := 0, slots := 0, locals := 102 } D cy L κ ln R I J [.ref x, .int a0] (fun r I2 J2 => Uv L κ ow I2 ∧ Fq L κ ow [107, 108, 109, 110, 111, 112, 501, 502, 16100, 16200, 16300, 16400, 16500, 16600] I I2 ∧ Fq L κ ow [] J J2 ∧ Rg (-1) 3 r) := by
  refine CtI.of (by decide +kernel) (Nat.le_of_ble_eq_true rfl) ?_
  intro p e s m below meth c B K
  have C := B.1
  have hF : Fq L κ ow [107, 108, 109, 110, 111, 112, 501, 502, 16100, 16200, 16300, 16400, 16500, 16600] I I := fq_rf
  have hG : Fq L κ ow [] J J := fq_rf
  obtain ⟨b_407714, hb_407714, hb_407714L, hb_407714k⟩ := shp_o (W9 x hLx) hkx 1 8 rfl (by decide)
  obtain ⟨b_407715, hb_407715, hb_407715L, hb_407715k⟩ := shp_o (W9 x hLx) hkx 2 1 rfl (by decide)
  obtain ⟨b_407716, hb_407716, hb_407716L, hb_407716k⟩ := shp_o (W9 x hLx) hkx 4 5 rfl (by decide)
  refine g_lo (is := [0, 1]) (lo2 := [(0, .ref x), (1, .int a0)]) rfl ?_
  refine g_aload_n C 0 dX11_accept_0 rfl rfl ?_
  refine g_getR C K hLx hkx f_11_19 hb_407714 dX11_accept_1 ?_
  refine g_iload_n C 1 dX11_accept_4 rfl rfl ?_
  refine g_callVI C K (c_X8_hasPerson W9 hb_407714L hb_407714k a0  hU) hb_407714L hb_407714k (by decide) rfl v_11_133 rfl ⟨rfl, rfl⟩ ⟨Nat.le_of_ble_eq_true rfl, Nat.le_of_ble_eq_true rfl⟩ (Nat.le_of_ble_eq_true rfl) ⟨Nat.le_of_ble_eq_true rfl, Nat.le_of_ble_eq_true rfl⟩ dX11_accept_5 rfl (st := []) (fun x_407717 I_407718 J_407719 h_407720 => ?_)
  obtain ⟨rfl, rfl, rx_407717, ex_407717⟩ := h_407720
  refine g_if_ne C (tgt := 13) dX11_accept_8 (by decide) (fun h_407721 => ?_) (fun h_407721 => ?_)
  · skip
    have n_407722 : ¬ x_407717 = 0 := h_407721
    have r_407723 := ne_lo (lo := 1) n_407722 rx_407717 rc_0 rfl (by decide)
    have r_407724 := rg_i (rg_all a0) ((ex_407717) (rg_nz r_407723 (by decide))) (lo := 0) (hi := 6) (by decide) (by decide)
    refine g_aload_n C 0 dX11_accept_13 rfl rfl ?_
    refine g_getR C K hLx hkx f_11_38 hb_407716 dX11_accept_14 ?_
    refine g_aload_n C 0 dX11_accept_17 rfl rfl ?_
    refine g_getR C K hLx hkx f_11_28 hb_407715 dX11_accept_18 ?_
    refine g_callVV C K (c_X5_note W9 hb_407716L hb_407716k hb_407715L hb_407715k  hU) hb_407716L hb_407716k (by decide) rfl v_11_225 rfl ⟨rfl, rfl⟩ ⟨Nat.le_of_ble_eq_true rfl, Nat.le_of_ble_eq_true rfl⟩ (Nat.le_of_ble_eq_true rfl) ⟨Nat.le_of_ble_eq_true rfl, Nat.le_of_ble_eq_true rfl⟩ dX11_accept_21 rfl (st := []) (fun I_407726 J_407727 h_407728 => ?_)
    obtain ⟨hUI_407726, hFI_407726, hGJ_407727⟩ := h_407728
    have hF_407729 := fq_tr hF hFI_407726 (by decide)
    have hG_407730 := fq_tr hG hGJ_407727 (by decide)
    refine g_aload_n C 0 dX11_accept_24 rfl rfl ?_
    refine g_aload_n C 0 dX11_accept_25 rfl rfl ?_
    refine g_getR C K hLx hkx f_11_28 hb_407715 dX11_accept_26 ?_
    refine g_iload_n C 1 dX11_accept_29 rfl rfl ?_
    refine g_callVI C K (c_X1_tryToAccept W9 hb_407715L hb_407715k a0 (rg_w r_407724 (by decide) (by decide)) hUI_407726) hb_407715L hb_407715k (by decide) rfl v_11_244 rfl ⟨rfl, rfl⟩ ⟨Nat.le_of_ble_eq_true rfl, Nat.le_of_ble_eq_true rfl⟩ (Nat.le_of_ble_eq_true rfl) ⟨Nat.le_of_ble_eq_true rfl, Nat.le_of_ble_eq_true rfl⟩ dX11_accept_30 rfl (st := [.ref x]) (fun x_407731 I_407732 J_407733 h_407734 => ?_)
    obtain ⟨hUI_407732, hFI_407732, hGJ_407733, rx_407731⟩ := h_407734
    have hF_407735 := fq_tr hF_407729 hFI_407732 (by decide)
    have hG_407736 := fq_tr hG_407730 hGJ_407733 (by decide)
    refine g_callVI C K (c_X11_keptIfDone W9 hLx hkx x_407731 (rg_w rx_407731 (by decide) (by decide)) hUI_407732) hLx hkx (by decide) rfl v_11_232 rfl ⟨rfl, rfl⟩ ⟨Nat.le_of_ble_eq_true rfl, Nat.le_of_ble_eq_true rfl⟩ (Nat.le_of_ble_eq_true rfl) ⟨Nat.le_of_ble_eq_true rfl, Nat.le_of_ble_eq_true rfl⟩ dX11_accept_33 rfl (st := []) (fun x_407737 I_407738 J_407739 h_407740 => ?_)
    obtain ⟨hUI_407738, hFI_407738, hGJ_407739, rx_407737⟩ := h_407740
    have hF_407741 := fq_tr hF_407735 hFI_407738 (by decide)
    have hG_407742 := fq_tr hG_407736 hGJ_407739 (by decide)
    exact g_zret (ty := .int) (r := x_407737) B K rfl (rfl) ⟨hUI_407738, hF_407741, hG_407742, rg_w rx_407737 (by decide) (by decide)⟩ dX11_accept_36
  · skip
    have r_407743 := (⟨(rx_407717).1, (eq_rg (h_407721) rc_0).2⟩ : Rg 0 0 x_407717)
    refine g_iconst C (v := (-1)) dX11_accept_11 (by decide) ?_
    exact g_zret (ty := .int) (r := (-1)) B K rfl (rfl) ⟨hU, hF, hG, rg_w rc_m1 (by decide) (by decide)⟩ dX11_accept_12
set_option maxRecDepth 100000 in
set_option maxHeartbeats 8000000 in
theorem c_X11_keptIfAny {l : Launch} {D : va_G} {cy : Nat → ClassId} {L : List Nat} {κ ln : Nat → Nat} {R : Nat → Nat → Option Nat} {I : Nat → Nat → Int32} {J : Nat → Nat → Int64} {ow : Nat → Nat × Nat} (W9 : ∀ a ∈ L, Shp L κ ln R ow a) {x : Nat} (hLx : x ∈ L) (hkx : κ x = 11) (a0 : Int32) (ra0 : Rg 0 64 a0) (hU : Uv L κ ow I) : CtI l yX11_keptIfAny cX11_keptIfAny 2 (some .int) { frames := 2, cells := 0, slots := 0, locals := 80 } D cy L κ ln R I J [.ref x, .int a0] (fun r I2 J2 => Uv L κ ow I2 ∧ Fq L κ ow [501, 502] I I2 ∧ Fq L κ ow [] J J2 ∧ Rg 0 64 r) := by
  refine CtI.of (by decide +kernel) (Nat.le_of_ble_eq_true rfl) ?_
  intro p e s m below meth c B K
  have C := B.1
  have hF : Fq L κ ow [501, 502] I I := fq_rf
  have hG : Fq L κ ow [] J J := fq_rf
  obtain ⟨b_407764, hb_407764, hb_407764L, hb_407764k⟩ := shp_o (W9 x hLx) hkx 4 5 rfl (by decide)
  refine g_lo (is := [0, 1]) (lo2 := [(0, .ref x), (1, .int a0)]) rfl ?_
  refine g_iload_n C 1 dX11_keptIfAny_0 rfl rfl ?_
  refine g_if_le C (tgt := 11) dX11_keptIfAny_1 (by decide) (fun h_407765 => ?_) (fun h_407765 => ?_)
  · skip
    have r_407766 := le_l (h_407765) ra0 rc_0
    refine g_iload_n C 1 dX11_keptIfAny_11 rfl rfl ?_
    exact g_zret (ty := .int) (r := a0) B K rfl (rfl) ⟨hU, hF, hG, rg_w r_407766 (by decide) (by decide)⟩ dX11_keptIfAny_12
  · skip
    have r_407767 := lt_r (lo := 1) (nle h_407765) rc_0 ra0 (by decide)
    refine g_aload_n C 0 dX11_keptIfAny_4 rfl rfl ?_
    refine g_getR C K hLx hkx f_11_38 hb_407764 dX11_keptIfAny_5 ?_
    refine g_callVV C K (c_X5_keepNoted W9 hb_407764L hb_407764k   hU) hb_407764L hb_407764k (by decide) rfl v_11_260 rfl ⟨rfl, rfl⟩ ⟨Nat.le_of_ble_eq_true rfl, Nat.le_of_ble_eq_true rfl⟩ (Nat.le_of_ble_eq_true rfl) ⟨Nat.le_of_ble_eq_true rfl, Nat.le_of_ble_eq_true rfl⟩ dX11_keptIfAny_8 rfl (st := []) (fun I_407769 J_407770 h_407771 => ?_)
    obtain ⟨hUI_407769, hFI_407769, hGJ_407770⟩ := h_407771
    have hF_407772 := fq_tr hF hFI_407769 (by decide)
    have hG_407773 := fq_tr hG hGJ_407770 (by decide)
    refine g_iload_n C 1 dX11_keptIfAny_11 rfl rfl ?_
    exact g_zret (ty := .int) (r := a0) B K rfl (rfl) ⟨hUI_407769, hF_407772, hG_407773, rg_w r_407767 (by decide) (by decide)⟩ dX11_keptIfAny_12
set_option maxRecDepth 100000 in
set_option maxHeartbeats 8000000 in
theorem c_X5_takeBack {l : Launch} {D : va_G} {cy : Nat → ClassId} {L : List Nat} {κ ln : Nat → Nat} {R : Nat → Nat → Option Nat} {I : Nat → Nat → Int32} {J : Nat → Nat → Int64} {ow : Nat → Nat × Nat} (W9 : ∀ a ∈ L, Shp L κ ln R ow a) {x : Nat} (hLx : x ∈ L) (hkx : κ x = 5) {a0 : Nat} (hLa0 : a0 ∈ L) (hka0 : κ a0 = 1) (hU : Uv L κ ow I) : CtI l yX5_takeBack cX5_takeBack 2 (some .int) { frames := 2, cells := 0, slots := 0, locals := 81 } D cy L κ ln R I J [.ref x, .ref a0] (fun r I2 J2 => Uv L κ ow I2 ∧ Fq L κ ow [107, 108, 109, 110, 111, 112, 501, 502, 16100, 16200, 16300, 16400, 16500, 16600] I I2 ∧ Fq L κ ow [] J J2 ∧ Rg (-1) 7 r) := by
  refine CtI.of (by decide +kernel) (Nat.le_of_ble_eq_true rfl) ?_
  intro p e s m below meth c B K
  have C := B.1
  have hF : Fq L κ ow [107, 108, 109, 110, 111, 112, 501, 502, 16100, 16200, 16300, 16400, 16500, 16600] I I := fq_rf
  have hG : Fq L κ ow [] J J := fq_rf
  obtain ⟨b_407846, hb_407846, hb_407846L, hb_407846k, hb_407846n, hb_407846o⟩ := shp_a (W9 x hLx) hkx 0 17 9 rfl (by decide)
  refine g_lo (is := [0, 1]) (lo2 := [(0, .ref x), (1, .ref a0)]) rfl ?_
  refine g_aload_n C 0 dX5_takeBack_0 rfl rfl ?_
  obtain ⟨x_407847, hx_407847, rx_407847⟩ := ex_get (I := I) (a := x) (j := 1) (lo := 0) (hi := 8) hU hLx (ro_o hkx (by decide)) rfl
  refine g_getI C K hLx hkx f_5_17 (v := x_407847) hx_407847 dX5_takeBack_1 ?_
  refine g_if_ne C (tgt := 9) dX5_takeBack_4 (by decide) (fun h_407848 => ?_) (fun h_407848 => ?_)
  · skip
    have n_407849 : ¬ x_407847 = 0 := h_407848
    have r_407850 := ne_lo (lo := 1) n_407849 rx_407847 rc_0 rfl (by decide)
    refine g_aload_n C 0 dX5_takeBack_9 rfl rfl ?_
    refine g_dup C dX5_takeBack_10 rfl ?_
    refine g_getI C K hLx hkx f_5_17 (v := x_407847) hx_407847 dX5_takeBack_11 ?_
    refine g_iconst C (v := 1) dX5_takeBack_14 (by decide) ?_
    obtain ⟨x_407851, hx_407851, rx_407851, tx_407851⟩ := ex_sub 0 7 r_407850 rc_1 (by decide) (by decide) (by decide) (by decide)
    refine g_isub C (v := x_407851) dX5_takeBack_15 hx_407851 ?_
    refine h_putI C K hLx hkx f_5_17 p_5_1 dX5_takeBack_16 (fun I_407852 hI_407852 => ?_)
    have hU_407853 := uv_put hU hI_407852 (ro_o hkx (by decide)) (lo := 0) (hi := 8) rfl (rg_w rx_407851 (by decide) (by decide))
    have hF_407854 := fq_puto hF hI_407852 hkx (by decide) (by decide)
    refine g_aload_n C 0 dX5_takeBack_19 rfl rfl ?_
    refine g_aload_n C 0 dX5_takeBack_20 rfl rfl ?_
    obtain ⟨x_407855, hx_407855, rx_407855⟩ := ex_get (I := I_407852) (a := x) (j := 2) (lo := 0) (hi := 8) hU_407853 hLx (ro_o hkx (by decide)) rfl
    refine g_getI C K hLx hkx f_5_21 (v := x_407855) hx_407855 dX5_takeBack_21 ?_
    refine g_if_le C (tgt := 36) dX5_takeBack_24 (by decide) (fun h_407856 => ?_) (fun h_407856 => ?_)
    · skip
      have r_407857 := le_l (h_407856) rx_407855 rc_0
      refine g_bipush C (v := 8) dX5_takeBack_36 (by decide) ?_
      refine h_putI C K hLx hkx f_5_21 p_5_2 dX5_takeBack_38 (fun I_407858 hI_407858 => ?_)
      have hU_407859 := uv_put hU_407853 hI_407858 (ro_o hkx (by decide)) (lo := 0) (hi := 8) rfl (rg_w rc_8 (by decide) (by decide))
      have hF_407860 := fq_puto hF_407854 hI_407858 hkx (by decide) (by decide)
      refine g_aload_n C 1 dX5_takeBack_41 rfl rfl ?_
      refine g_aload_n C 0 dX5_takeBack_42 rfl rfl ?_
      refine g_getR C K hLx hkx f_5_13 hb_407846 dX5_takeBack_43 ?_
      refine g_aload_n C 0 dX5_takeBack_46 rfl rfl ?_
      refine g_getI C K hLx hkx f_5_21 (v := 8) (kp_s hI_407858) dX5_takeBack_47 ?_
      obtain ⟨b_407861, hb_407861, hb_407861L, hb_407861k⟩ := (W9 b_407846 hb_407846L).2.1 hb_407846k (8) (by rw [hb_407846n]; decide)
      refine h_aaldC C K hb_407846L hb_407846k (8) (by decide) (by decide) (by rw [hb_407846n]; decide) hb_407861 dX5_takeBack_50 ?_
      refine g_callVV C K (c_X1_become W9 hLa0 hka0 hb_407861L hb_407861k  hU_407859) hLa0 hka0 (by decide) rfl v_5_27 rfl ⟨rfl, rfl⟩ ⟨Nat.le_of_ble_eq_true rfl, Nat.le_of_ble_eq_true rfl⟩ (Nat.le_of_ble_eq_true rfl) ⟨Nat.le_of_ble_eq_true rfl, Nat.le_of_ble_eq_true rfl⟩ dX5_takeBack_51 rfl (st := []) (fun I_407863 J_407864 h_407865 => ?_)
      obtain ⟨hUI_407863, hFI_407863, hGJ_407864⟩ := h_407865
      have hF_407866 := fq_tr hF_407860 hFI_407863 (by decide)
      have hG_407867 := fq_tr hG hGJ_407864 (by decide)
      refine g_aload_n C 0 dX5_takeBack_54 rfl rfl ?_
      refine g_getI C K hLx hkx f_5_17 (v := x_407851) (fq_at hFI_407863 hLx hkx (by decide) (by decide) (kp_j hI_407858 (by decide) (kp_s hI_407852))) dX5_takeBack_55 ?_
      exact g_zret (ty := .int) (r := x_407851) B K rfl (rfl) ⟨hUI_407863, hF_407866, hG_407867, rg_w rx_407851 (by decide) (by decide)⟩ dX5_takeBack_58
    · skip
      have r_407868 := lt_r (lo := 1) (nle h_407856) rc_0 rx_407855 (by decide)
      refine g_aload_n C 0 dX5_takeBack_27 rfl rfl ?_
      refine g_getI C K hLx hkx f_5_21 (v := x_407855) hx_407855 dX5_takeBack_28 ?_
      refine g_iconst C (v := 1) dX5_takeBack_31 (by decide) ?_
      obtain ⟨x_407869, hx_407869, rx_407869, tx_407869⟩ := ex_sub 0 7 r_407868 rc_1 (by decide) (by decide) (by decide) (by decide)
      refine g_isub C (v := x_407869) dX5_takeBack_32 hx_407869 ?_
      refine g_goto C (tgt := 38) dX5_takeBack_33 (by decide) ?_
      refine h_putI C K hLx hkx f_5_21 p_5_2 dX5_takeBack_38 (fun I_407870 hI_407870 => ?_)
      have hU_407871 := uv_put hU_407853 hI_407870 (ro_o hkx (by decide)) (lo := 0) (hi := 8) rfl (rg_w rx_407869 (by decide) (by decide))
      have hF_407872 := fq_puto hF_407854 hI_407870 hkx (by decide) (by decide)
      refine g_aload_n C 1 dX5_takeBack_41 rfl rfl ?_
      refine g_aload_n C 0 dX5_takeBack_42 rfl rfl ?_
      refine g_getR C K hLx hkx f_5_13 hb_407846 dX5_takeBack_43 ?_
      refine g_aload_n C 0 dX5_takeBack_46 rfl rfl ?_
      refine g_getI C K hLx hkx f_5_21 (v := x_407869) (kp_s hI_407870) dX5_takeBack_47 ?_
      obtain ⟨b_407873, hb_407873, hb_407873L, hb_407873k⟩ := (W9 b_407846 hb_407846L).2.1 hb_407846k (x_407869.toNatClampNeg) (ix_lt rx_407869 (by decide) hb_407846n (by decide))
      refine h_aaldC C K hb_407846L hb_407846k (x_407869.toNatClampNeg) (rfl) (ix_0 rx_407869 (by decide)) (ix_lt rx_407869 (by decide) hb_407846n (by decide)) hb_407873 dX5_takeBack_50 ?_
      refine g_callVV C K (c_X1_become W9 hLa0 hka0 hb_407873L hb_407873k  hU_407871) hLa0 hka0 (by decide) rfl v_5_27 rfl ⟨rfl, rfl⟩ ⟨Nat.le_of_ble_eq_true rfl, Nat.le_of_ble_eq_true rfl⟩ (Nat.le_of_ble_eq_true rfl) ⟨Nat.le_of_ble_eq_true rfl, Nat.le_of_ble_eq_true rfl⟩ dX5_takeBack_51 rfl (st := []) (fun I_407875 J_407876 h_407877 => ?_)
      obtain ⟨hUI_407875, hFI_407875, hGJ_407876⟩ := h_407877
      have hF_407878 := fq_tr hF_407872 hFI_407875 (by decide)
      have hG_407879 := fq_tr hG hGJ_407876 (by decide)
      refine g_aload_n C 0 dX5_takeBack_54 rfl rfl ?_
      refine g_getI C K hLx hkx f_5_17 (v := x_407851) (fq_at hFI_407875 hLx hkx (by decide) (by decide) (kp_j hI_407870 (by decide) (kp_s hI_407852))) dX5_takeBack_55 ?_
      exact g_zret (ty := .int) (r := x_407851) B K rfl (rfl) ⟨hUI_407875, hF_407878, hG_407879, rg_w rx_407851 (by decide) (by decide)⟩ dX5_takeBack_58
  · skip
    have r_407880 := (⟨(rx_407847).1, (eq_rg (h_407848) rc_0).2⟩ : Rg 0 0 x_407847)
    refine g_iconst C (v := (-1)) dX5_takeBack_7 (by decide) ?_
    exact g_zret (ty := .int) (r := (-1)) B K rfl (rfl) ⟨hU, hF, hG, rg_w rc_m1 (by decide) (by decide)⟩ dX5_takeBack_8
set_option maxRecDepth 100000 in
set_option maxHeartbeats 8000000 in
theorem c_X11_undo {l : Launch} {D : va_G} {cy : Nat → ClassId} {L : List Nat} {κ ln : Nat → Nat} {R : Nat → Nat → Option Nat} {I : Nat → Nat → Int32} {J : Nat → Nat → Int64} {ow : Nat → Nat × Nat} (W9 : ∀ a ∈ L, Shp L κ ln R ow a) {x : Nat} (hLx : x ∈ L) (hkx : κ x = 11) (hU : Uv L κ ow I) : CtI l yX11_undo cX11_undo 1 (some .int) { frames := 3, cells := 0, slots := 0, locals := 102 } D cy L κ ln R I J [.ref x] (fun r I2 J2 => Uv L κ ow I2 ∧ Fq L κ ow [107, 108, 109, 110, 111, 112, 501, 502, 16100, 16200, 16300, 16400, 16500, 16600] I I2 ∧ Fq L κ ow [] J J2 ∧ Rg (-1) 7 r) := by
  refine CtI.of (by decide +kernel) (Nat.le_of_ble_eq_true rfl) ?_
  intro p e s m below meth c B K
  have C := B.1
  have hF : Fq L κ ow [107, 108, 109, 110, 111, 112, 501, 502, 16100, 16200, 16300, 16400, 16500, 16600] I I := fq_rf
  have hG : Fq L κ ow [] J J := fq_rf
  obtain ⟨b_407897, hb_407897, hb_407897L, hb_407897k⟩ := shp_o (W9 x hLx) hkx 2 1 rfl (by decide)
  obtain ⟨b_407898, hb_407898, hb_407898L, hb_407898k⟩ := shp_o (W9 x hLx) hkx 4 5 rfl (by decide)
  refine g_lo (is := [0]) (lo2 := [(0, .ref x)]) rfl ?_
  refine g_aload_n C 0 dX11_undo_0 rfl rfl ?_
  refine g_getR C K hLx hkx f_11_38 hb_407898 dX11_undo_1 ?_
  refine g_aload_n C 0 dX11_undo_4 rfl rfl ?_
  refine g_getR C K hLx hkx f_11_28 hb_407897 dX11_undo_5 ?_
  refine g_callVI C K (c_X5_takeBack W9 hb_407898L hb_407898k hb_407897L hb_407897k  hU) hb_407898L hb_407898k (by decide) rfl v_11_256 rfl ⟨rfl, rfl⟩ ⟨Nat.le_of_ble_eq_true rfl, Nat.le_of_ble_eq_true rfl⟩ (Nat.le_of_ble_eq_true rfl) ⟨Nat.le_of_ble_eq_true rfl, Nat.le_of_ble_eq_true rfl⟩ dX11_undo_8 rfl (st := []) (fun x_407899 I_407900 J_407901 h_407902 => ?_)
  obtain ⟨hUI_407900, hFI_407900, hGJ_407901, rx_407899⟩ := h_407902
  have hF_407903 := fq_tr hF hFI_407900 (by decide)
  have hG_407904 := fq_tr hG hGJ_407901 (by decide)
  exact g_zret (ty := .int) (r := x_407899) B K rfl (rfl) ⟨hUI_407900, hF_407903, hG_407904, rx_407899⟩ dX11_undo_11
set_option maxRecDepth 100000 in
set_option maxHeartbeats 8000000 in
theorem c_X1_firstBehind {l : Launch} {D : va_G} {cy : Nat → ClassId} {L : List Nat} {κ ln : Nat → Nat} {R : Nat → Nat → Option Nat} {I : Nat → Nat → Int32} {J : Nat → Nat → Int64} {ow : Nat → Nat × Nat} (W9 : ∀ a ∈ L, Shp L κ ln R ow a) {x : Nat} (hLx : x ∈ L) (hkx : κ x = 1) (a0 : Int32) (a1 : Int32) (ra0 : Rg 0 6 a0) (ra1 : Rg 0 127 a1) (hU : Uv L κ ow I) : CtI l yX1_firstBehind cX1_firstBehind 5 (some .int) { frames := 0, cells := 0, slots := 0, locals := 0 } D cy L κ ln R I J [.ref x, .int a0, .int a1] (fun r I2 J2 => I = I2 ∧ J = J2 ∧ Rg (-1) 6 r) := by
  refine CtI.of (by decide +kernel) (Nat.le_of_ble_eq_true rfl) ?_
  intro p e s m below meth c B K
  have C := B.1
  obtain ⟨b_408080, hb_408080, hb_408080L, hb_408080k⟩ := shp_o (W9 x hLx) hkx 0 8 rfl (by decide)
  refine g_lo (is := [0, 1, 2]) (lo2 := [(0, .ref x), (1, .int a0), (2, .int a1)]) rfl ?_
  have l_5 : ∀ (n_5 : Nat) (v_408081 : Int32) (rv_408081 : Rg 0 6 v_408081) (v_408082 : Int32) (rv_408082 : Rg 0 127 v_408082) (v_408083 : Int32) (rv_408083 : Rg 0 6 v_408083) (v_408084 : Int32) (rv_408084 : Rg 1 7 v_408084) (hm_408085 : 7 < (v_408084 : Int32).toInt + (n_5 : Int)), WG p l e { frames := 0, cells := 0, slots := 0, locals := 0 } s m ([.ref x, .int a0, .int a1] : List Value).toArray below meth c 5 0 0 (MQ below (Qi_ D cy L κ ln R (fun r I2 J2 => I = I2 ∧ J = J2 ∧ Rg (-1) 6 r)) ([.ref x, .int a0, .int a1] : List Value).toArray s 0 0 (Al_ L)) D cy (Al_ L) s.heap L κ ln R I J 5 [(0, .ref x), (1, .int v_408081), (2, .int v_408082), (3, .int v_408083), (4, .int v_408084)] [] := by
    intro n_5
    induction n_5 with
    | zero =>
      intro v_408081 rv_408081 v_408082 rv_408082 v_408083 rv_408083 v_408084 rv_408084 hm_408085
      exact ms_0 rv_408084 hm_408085
    | succ n_5 ih_5 =>
      intro v_408081 rv_408081 v_408082 rv_408082 v_408083 rv_408083 v_408084 rv_408084 hm_408085
      refine g_iload C 4 dX1_firstBehind_5 rfl ?_
      refine g_aload_n C 0 dX1_firstBehind_7 rfl rfl ?_
      refine g_getR C K hLx hkx f_1_52 hb_408080 dX1_firstBehind_8 ?_
      obtain ⟨x_408086, hx_408086, rx_408086⟩ := ex_get (I := I) (a := b_408080) (j := 5) (lo := 0) (hi := 7) hU hb_408080L (ro_o hb_408080k (by decide)) rfl
      refine g_getI C K hb_408080L hb_408080k f_1_68 (v := x_408086) hx_408086 dX1_firstBehind_11 ?_
      refine g_icmp_ge C (tgt := 54) dX1_firstBehind_14 (by decide) (fun h_408087 => ?_) (fun h_408087 => ?_)
      · skip
        refine g_iconst C (v := (-1)) dX1_firstBehind_54 (by decide) ?_
        exact g_zret (ty := .int) (r := (-1)) B K rfl (rfl) ⟨rfl, rfl, rg_w rc_m1 (by decide) (by decide)⟩ dX1_firstBehind_55
      · skip
        have r_408088 := lt_l (hi := 6) (nle h_408087) rv_408084 rx_408086 (by decide)
        have r_408089 := lt_r (lo := 2) (nle h_408087) rv_408084 rx_408086 (by decide)
        refine g_iload_n C 3 dX1_firstBehind_17 rfl rfl ?_
        refine g_iconst C (v := 1) dX1_firstBehind_18 (by decide) ?_
        obtain ⟨x_408090, hx_408090, rx_408090, tx_408090⟩ := ex_add 1 7 rv_408083 rc_1 (by decide) (by decide) (by decide) (by decide)
        refine g_iadd C (v := x_408090) dX1_firstBehind_19 hx_408090 ?_
        refine g_aload_n C 0 dX1_firstBehind_20 rfl rfl ?_
        refine g_getR C K hLx hkx f_1_52 hb_408080 dX1_firstBehind_21 ?_
        refine g_getI C K hb_408080L hb_408080k f_1_68 (v := x_408086) hx_408086 dX1_firstBehind_24 ?_
        refine g_icmp_ge C (tgt := 36) dX1_firstBehind_27 (by decide) (fun h_408091 => ?_) (fun h_408091 => ?_)
        · skip
          have r_408092 := le_r (h_408091) r_408089 rx_408090
          refine g_iconst C (v := 0) dX1_firstBehind_36 (by decide) ?_
          refine g_istore_n C dX1_firstBehind_37 rfl (by decide) (lo2 := [(3, .int 0), (0, .ref x), (1, .int v_408081), (2, .int v_408082), (4, .int v_408084)]) rfl ?_
          refine g_iload_n C 3 dX1_firstBehind_38 rfl rfl ?_
          refine g_iload_n C 0 dX1_firstBehind_39 rfl rfl ?_
          obtain ⟨x_408093, hx_408093, rx_408093⟩ := ex_shr (x := v_408082) (y := 0) (b := 127) (rv_408082)
          refine g_ishr C (v := x_408093) dX1_firstBehind_40 hx_408093 ?_
          refine g_iconst C (v := 1) dX1_firstBehind_41 (by decide) ?_
          obtain ⟨x_408094, hx_408094, rx_408094⟩ := ex_andr (x := x_408093) (y := 1) (b := 1) (rg_w rc_1 (by decide) (by decide))
          refine g_iand C (v := x_408094) dX1_firstBehind_42 hx_408094 ?_
          refine g_if_eq C (tgt := 48) dX1_firstBehind_43 (by decide) (fun h_408095 => ?_) (fun h_408095 => ?_)
          · skip
            have r_408096 := (⟨(rx_408094).1, (eq_rg (h_408095) rc_0).2⟩ : Rg 0 0 x_408094)
            obtain ⟨x_408097, hx_408097, rx_408097, tx_408097⟩ := ex_add (y := 1) 2 7 r_408088 rc_1 (by decide) (by decide) (by decide) (by decide)
            refine g_iinc C dX1_firstBehind_48 (k := 4) (v := x_408097) rfl hx_408097 (by decide) (lo2 := [(4, .int x_408097), (3, .int 0), (0, .ref x), (1, .int v_408081), (2, .int v_408082)]) rfl ?_
            refine g_goto C (tgt := 5) dX1_firstBehind_51 (by decide) ?_
            refine g_lo (is := [2, 3, 4, 1, 0]) (lo2 := [(0, .ref x), (1, .int v_408081), (2, .int v_408082), (3, .int 0), (4, .int x_408097)]) rfl ?_
            exact ih_5 v_408081 (rv_408081) v_408082 (rv_408082) 0 (rg_w rc_0 (by decide) (by decide)) x_408097 (rg_w rx_408097 (by decide) (by decide)) (ms_1 hm_408085 (ti_k tx_408097 rc_1) (by decide))
          · skip
            have n_408098 : ¬ x_408094 = 0 := h_408095
            have r_408099 := ne_lo (lo := 1) n_408098 rx_408094 rc_0 rfl (by decide)
            refine g_iload_n C 0 dX1_firstBehind_46 rfl rfl ?_
            exact g_zret (ty := .int) (r := 0) B K rfl (rfl) ⟨rfl, rfl, rg_w rc_0 (by decide) (by decide)⟩ dX1_firstBehind_47
        · skip
          have r_408100 := lt_l (hi := 6) (nle h_408091) rx_408090 r_408089 (by decide)
          refine g_iload_n C 3 dX1_firstBehind_30 rfl rfl ?_
          refine g_iconst C (v := 1) dX1_firstBehind_31 (by decide) ?_
          refine g_iadd C (v := x_408090) dX1_firstBehind_32 hx_408090 ?_
          refine g_goto C (tgt := 37) dX1_firstBehind_33 (by decide) ?_
          refine g_istore_n C dX1_firstBehind_37 rfl (by decide) (lo2 := [(3, .int x_408090), (0, .ref x), (1, .int v_408081), (2, .int v_408082), (4, .int v_408084)]) rfl ?_
          refine g_iload_n C 3 dX1_firstBehind_38 rfl rfl ?_
          refine g_iload_n C 0 dX1_firstBehind_39 rfl rfl ?_
          obtain ⟨x_408101, hx_408101, rx_408101⟩ := ex_shr (x := v_408082) (y := x_408090) (b := 127) (rv_408082)
          refine g_ishr C (v := x_408101) dX1_firstBehind_40 hx_408101 ?_
          refine g_iconst C (v := 1) dX1_firstBehind_41 (by decide) ?_
          obtain ⟨x_408102, hx_408102, rx_408102⟩ := ex_andr (x := x_408101) (y := 1) (b := 1) (rg_w rc_1 (by decide) (by decide))
          refine g_iand C (v := x_408102) dX1_firstBehind_42 hx_408102 ?_
          refine g_if_eq C (tgt := 48) dX1_firstBehind_43 (by decide) (fun h_408103 => ?_) (fun h_408103 => ?_)
          · skip
            have r_408104 := (⟨(rx_408102).1, (eq_rg (h_408103) rc_0).2⟩ : Rg 0 0 x_408102)
            obtain ⟨x_408105, hx_408105, rx_408105, tx_408105⟩ := ex_add (y := 1) 2 7 r_408088 rc_1 (by decide) (by decide) (by decide) (by decide)
            refine g_iinc C dX1_firstBehind_48 (k := 4) (v := x_408105) rfl hx_408105 (by decide) (lo2 := [(4, .int x_408105), (3, .int x_408090), (0, .ref x), (1, .int v_408081), (2, .int v_408082)]) rfl ?_
            refine g_goto C (tgt := 5) dX1_firstBehind_51 (by decide) ?_
            refine g_lo (is := [2, 3, 4, 1, 0]) (lo2 := [(0, .ref x), (1, .int v_408081), (2, .int v_408082), (3, .int x_408090), (4, .int x_408105)]) rfl ?_
            exact ih_5 v_408081 (rv_408081) v_408082 (rv_408082) x_408090 (rg_w r_408100 (by decide) (by decide)) x_408105 (rg_w rx_408105 (by decide) (by decide)) (ms_1 hm_408085 (ti_k tx_408105 rc_1) (by decide))
          · skip
            have n_408106 : ¬ x_408102 = 0 := h_408103
            have r_408107 := ne_lo (lo := 1) n_408106 rx_408102 rc_0 rfl (by decide)
            refine g_iload_n C 0 dX1_firstBehind_46 rfl rfl ?_
            exact g_zret (ty := .int) (r := x_408090) B K rfl (rfl) ⟨rfl, rfl, rg_w r_408100 (by decide) (by decide)⟩ dX1_firstBehind_47
  refine g_iload_n C 1 dX1_firstBehind_0 rfl rfl ?_
  refine g_istore_n C dX1_firstBehind_1 rfl (by decide) (lo2 := [(3, .int a0), (0, .ref x), (1, .int a0), (2, .int a1)]) rfl ?_
  refine g_iconst C (v := 1) dX1_firstBehind_2 (by decide) ?_
  refine g_istore C dX1_firstBehind_3 (by decide) (lo2 := [(4, .int 1), (3, .int a0), (0, .ref x), (1, .int a0), (2, .int a1)]) rfl ?_
  refine g_lo (is := [2, 3, 4, 1, 0]) (lo2 := [(0, .ref x), (1, .int a0), (2, .int a1), (3, .int a0), (4, .int 1)]) rfl ?_
  exact l_5 7 a0 (ra0) a1 (ra1) a0 (ra0) 1 (rg_w rc_1 (by decide) (by decide)) (ms_s (N := 7) (rg_w rc_1 (by decide) (by decide)) (by decide))
set_option maxRecDepth 100000 in
set_option maxHeartbeats 8000000 in
theorem c_X1_leastFed {l : Launch} {D : va_G} {cy : Nat → ClassId} {L : List Nat} {κ ln : Nat → Nat} {R : Nat → Nat → Option Nat} {I : Nat → Nat → Int32} {J : Nat → Nat → Int64} {ow : Nat → Nat × Nat} (W9 : ∀ a ∈ L, Shp L κ ln R ow a) {x : Nat} (hLx : x ∈ L) (hkx : κ x = 1) (a0 : Int32) (ra0 : Rg 0 127 a0) (hU : Uv L κ ow I) : CtI l yX1_leastFed cX1_leastFed 4 (some .int) { frames := 0, cells := 0, slots := 0, locals := 0 } D cy L κ ln R I J [.ref x, .int a0] (fun r I2 J2 => I = I2 ∧ J = J2 ∧ Rg (-1) 6 r) := by
  refine CtI.of (by decide +kernel) (Nat.le_of_ble_eq_true rfl) ?_
  intro p e s m below meth c B K
  have C := B.1
  obtain ⟨b_408280, hb_408280, hb_408280L, hb_408280k⟩ := shp_o (W9 x hLx) hkx 0 8 rfl (by decide)
  obtain ⟨b_408281, hb_408281, hb_408281L, hb_408281k, hb_408281n, hb_408281o⟩ := shp_a (W9 x hLx) hkx 4 14 7 rfl (by decide)
  refine g_lo (is := [0, 1]) (lo2 := [(0, .ref x), (1, .int a0)]) rfl ?_
  have l_4 : ∀ (n_4 : Nat) (v_408282 : Int32) (rv_408282 : Rg 0 127 v_408282) (v_408283 : Int32) (rv_408283 : Rg (-1) 6 v_408283) (v_408284 : Int32) (rv_408284 : Rg 0 7 v_408284) (hm_408285 : 7 < (v_408284 : Int32).toInt + (n_4 : Int)), WG p l e { frames := 0, cells := 0, slots := 0, locals := 0 } s m ([.ref x, .int a0] : List Value).toArray below meth c 4 0 0 (MQ below (Qi_ D cy L κ ln R (fun r I2 J2 => I = I2 ∧ J = J2 ∧ Rg (-1) 6 r)) ([.ref x, .int a0] : List Value).toArray s 0 0 (Al_ L)) D cy (Al_ L) s.heap L κ ln R I J 4 [(0, .ref x), (1, .int v_408282), (2, .int v_408283), (3, .int v_408284)] [] := by
    intro n_4
    induction n_4 with
    | zero =>
      intro v_408282 rv_408282 v_408283 rv_408283 v_408284 rv_408284 hm_408285
      exact ms_0 rv_408284 hm_408285
    | succ n_4 ih_4 =>
      intro v_408282 rv_408282 v_408283 rv_408283 v_408284 rv_408284 hm_408285
      have j_45 : ∀ (v_408286 : Int32) (rv_408286 : Rg 0 127 v_408286) (v_408287 : Int32) (rv_408287 : Rg (-1) 6 v_408287) (v_408288 : Int32) (rv_408288 : Rg 0 6 v_408288) (v_408289 : Int32) (rv_408289 : Rg 1 7 v_408289) (q_408290 : I b_408280 5 = v_408289) (hm_408291 : 7 < (v_408288 : Int32).toInt + ((n_4 + 1 : Nat) : Int)), WG p l e { frames := 0, cells := 0, slots := 0, locals := 0 } s m ([.ref x, .int a0] : List Value).toArray below meth c 4 0 0 (MQ below (Qi_ D cy L κ ln R (fun r I2 J2 => I = I2 ∧ J = J2 ∧ Rg (-1) 6 r)) ([.ref x, .int a0] : List Value).toArray s 0 0 (Al_ L)) D cy (Al_ L) s.heap L κ ln R I J 45 [(0, .ref x), (1, .int v_408286), (2, .int v_408287), (3, .int v_408288)] [] := by
        intro v_408286 rv_408286 v_408287 rv_408287 v_408288 rv_408288 v_408289 rv_408289 q_408290 hm_408291
        obtain ⟨x_408292, hx_408292, rx_408292, tx_408292⟩ := ex_add (y := 1) 1 7 rv_408288 rc_1 (by decide) (by decide) (by decide) (by decide)
        refine g_iinc C dX1_leastFed_45 (k := 3) (v := x_408292) rfl hx_408292 (by decide) (lo2 := [(3, .int x_408292), (0, .ref x), (1, .int v_408286), (2, .int v_408287)]) rfl ?_
        refine g_goto C (tgt := 4) dX1_leastFed_48 (by decide) ?_
        refine g_lo (is := [1, 2, 3, 0]) (lo2 := [(0, .ref x), (1, .int v_408286), (2, .int v_408287), (3, .int x_408292)]) rfl ?_
        exact ih_4 v_408286 (rv_408286) v_408287 (rv_408287) x_408292 (rg_w rx_408292 (by decide) (by decide)) (ms_1 hm_408291 (ti_k tx_408292 rc_1) (by decide))
      have j_43 : ∀ (v_408293 : Int32) (rv_408293 : Rg 0 127 v_408293) (v_408294 : Int32) (rv_408294 : Rg (-1) 6 v_408294) (v_408295 : Int32) (rv_408295 : Rg 0 6 v_408295) (v_408296 : Int32) (rv_408296 : Rg 1 7 v_408296) (q_408297 : I b_408280 5 = v_408296) (hm_408298 : 7 < (v_408295 : Int32).toInt + ((n_4 + 1 : Nat) : Int)), WG p l e { frames := 0, cells := 0, slots := 0, locals := 0 } s m ([.ref x, .int a0] : List Value).toArray below meth c 4 0 0 (MQ below (Qi_ D cy L κ ln R (fun r I2 J2 => I = I2 ∧ J = J2 ∧ Rg (-1) 6 r)) ([.ref x, .int a0] : List Value).toArray s 0 0 (Al_ L)) D cy (Al_ L) s.heap L κ ln R I J 43 [(0, .ref x), (1, .int v_408293), (2, .int v_408294), (3, .int v_408295)] [] := by
        intro v_408293 rv_408293 v_408294 rv_408294 v_408295 rv_408295 v_408296 rv_408296 q_408297 hm_408298
        refine g_iload_n C 3 dX1_leastFed_43 rfl rfl ?_
        refine g_istore_n C dX1_leastFed_44 rfl (by decide) (lo2 := [(2, .int v_408295), (0, .ref x), (1, .int v_408293), (3, .int v_408295)]) rfl ?_
        refine g_lo (is := [1, 2, 0, 3]) (lo2 := [(0, .ref x), (1, .int v_408293), (2, .int v_408295), (3, .int v_408295)]) rfl ?_
        exact j_45 v_408293 (rv_408293) v_408295 (rg_w rv_408295 (by decide) (by decide)) v_408295 (rv_408295) v_408296 (rv_408296) q_408297 hm_408298
      refine g_iload_n C 3 dX1_leastFed_4 rfl rfl ?_
      refine g_aload_n C 0 dX1_leastFed_5 rfl rfl ?_
      refine g_getR C K hLx hkx f_1_52 hb_408280 dX1_leastFed_6 ?_
      obtain ⟨x_408299, hx_408299, rx_408299⟩ := ex_get (I := I) (a := b_408280) (j := 5) (lo := 0) (hi := 7) hU hb_408280L (ro_o hb_408280k (by decide)) rfl
      refine g_getI C K hb_408280L hb_408280k f_1_68 (v := x_408299) hx_408299 dX1_leastFed_9 ?_
      refine g_icmp_ge C (tgt := 51) dX1_leastFed_12 (by decide) (fun h_408300 => ?_) (fun h_408300 => ?_)
      · skip
        refine g_iload_n C 2 dX1_leastFed_51 rfl rfl ?_
        exact g_zret (ty := .int) (r := v_408283) B K rfl (rfl) ⟨rfl, rfl, rv_408283⟩ dX1_leastFed_52
      · skip
        have r_408301 := lt_l (hi := 6) (nle h_408300) rv_408284 rx_408299 (by decide)
        have r_408302 := lt_r (lo := 1) (nle h_408300) rv_408284 rx_408299 (by decide)
        refine g_iload_n C 1 dX1_leastFed_15 rfl rfl ?_
        refine g_iload_n C 3 dX1_leastFed_16 rfl rfl ?_
        obtain ⟨x_408303, hx_408303, rx_408303⟩ := ex_shr (x := v_408282) (y := v_408284) (b := 127) (rv_408282)
        refine g_ishr C (v := x_408303) dX1_leastFed_17 hx_408303 ?_
        refine g_iconst C (v := 1) dX1_leastFed_18 (by decide) ?_
        obtain ⟨x_408304, hx_408304, rx_408304⟩ := ex_andr (x := x_408303) (y := 1) (b := 1) (rg_w rc_1 (by decide) (by decide))
        refine g_iand C (v := x_408304) dX1_leastFed_19 hx_408304 ?_
        refine g_if_eq C (tgt := 45) dX1_leastFed_20 (by decide) (fun h_408305 => ?_) (fun h_408305 => ?_)
        · skip
          have r_408306 := (⟨(rx_408304).1, (eq_rg (h_408305) rc_0).2⟩ : Rg 0 0 x_408304)
          refine g_lo (is := [0, 1, 2, 3]) (lo2 := [(0, .ref x), (1, .int v_408282), (2, .int v_408283), (3, .int v_408284)]) rfl ?_
          exact j_45 v_408282 (rv_408282) v_408283 (rv_408283) v_408284 (r_408301) x_408299 (r_408302) hx_408299 hm_408285
        · skip
          have n_408307 : ¬ x_408304 = 0 := h_408305
          have r_408308 := ne_lo (lo := 1) n_408307 rx_408304 rc_0 rfl (by decide)
          refine g_iload_n C 2 dX1_leastFed_23 rfl rfl ?_
          refine g_iconst C (v := (-1)) dX1_leastFed_24 (by decide) ?_
          refine g_icmp_eq C (tgt := 43) dX1_leastFed_25 (by decide) (fun h_408309 => ?_) (fun h_408309 => ?_)
          · skip
            have r_408310 := (⟨(rv_408283).1, (eq_rg (h_408309) rc_m1).2⟩ : Rg (-1) (-1) v_408283)
            refine g_lo (is := [0, 1, 2, 3]) (lo2 := [(0, .ref x), (1, .int v_408282), (2, .int v_408283), (3, .int v_408284)]) rfl ?_
            exact j_43 v_408282 (rv_408282) v_408283 (rg_w r_408310 (by decide) (by decide)) v_408284 (r_408301) x_408299 (r_408302) hx_408299 hm_408285
          · skip
            have n_408311 : ¬ v_408283 = (-1) := h_408309
            have r_408312 := ne_lo (lo := 0) n_408311 rv_408283 rc_m1 rfl (by decide)
            refine g_aload_n C 0 dX1_leastFed_28 rfl rfl ?_
            refine g_getR C K hLx hkx f_1_21 hb_408281 dX1_leastFed_29 ?_
            refine g_iload_n C 3 dX1_leastFed_32 rfl rfl ?_
            obtain ⟨x_408313, hx_408313, rx_408313⟩ := ex_get (I := I) (a := b_408281) (j := v_408284.toNatClampNeg) (lo := (-2147483648)) (hi := 2147483647) hU hb_408281L (ro_a hb_408281k (by decide) hb_408281o hkx rfl) (rfl)
            refine h_iald C K hb_408281L hb_408281k (v := x_408313) (v_408284.toNatClampNeg) (rfl) (ix_0 r_408301 (by decide)) (ix_lt r_408301 (by decide) hb_408281n (by decide)) hx_408313 dX1_leastFed_33 ?_
            refine g_aload_n C 0 dX1_leastFed_34 rfl rfl ?_
            refine g_getR C K hLx hkx f_1_21 hb_408281 dX1_leastFed_35 ?_
            refine g_iload_n C 2 dX1_leastFed_38 rfl rfl ?_
            obtain ⟨x_408314, hx_408314, rx_408314⟩ := ex_get (I := I) (a := b_408281) (j := v_408283.toNatClampNeg) (lo := (-2147483648)) (hi := 2147483647) hU hb_408281L (ro_a hb_408281k (by decide) hb_408281o hkx rfl) (rfl)
            refine h_iald C K hb_408281L hb_408281k (v := x_408314) (v_408283.toNatClampNeg) (rfl) (ix_0 r_408312 (by decide)) (ix_lt r_408312 (by decide) hb_408281n (by decide)) hx_408314 dX1_leastFed_39 ?_
            refine g_icmp_ge C (tgt := 45) dX1_leastFed_40 (by decide) (fun h_408315 => ?_) (fun h_408315 => ?_)
            · skip
              refine g_lo (is := [0, 1, 2, 3]) (lo2 := [(0, .ref x), (1, .int v_408282), (2, .int v_408283), (3, .int v_408284)]) rfl ?_
              exact j_45 v_408282 (rv_408282) v_408283 (rg_w r_408312 (by decide) (by decide)) v_408284 (r_408301) x_408299 (r_408302) hx_408299 hm_408285
            · skip
              have r_408316 := lt_l (hi := 2147483646) (nle h_408315) rx_408313 rx_408314 (by decide)
              have r_408317 := lt_r (lo := (-2147483647)) (nle h_408315) rx_408313 rx_408314 (by decide)
              refine g_lo (is := [0, 1, 2, 3]) (lo2 := [(0, .ref x), (1, .int v_408282), (2, .int v_408283), (3, .int v_408284)]) rfl ?_
              exact j_43 v_408282 (rv_408282) v_408283 (rg_w r_408312 (by decide) (by decide)) v_408284 (r_408301) x_408299 (r_408302) hx_408299 hm_408285
  refine g_iconst C (v := (-1)) dX1_leastFed_0 (by decide) ?_
  refine g_istore_n C dX1_leastFed_1 rfl (by decide) (lo2 := [(2, .int (-1)), (0, .ref x), (1, .int a0)]) rfl ?_
  refine g_iconst C (v := 0) dX1_leastFed_2 (by decide) ?_
  refine g_istore_n C dX1_leastFed_3 rfl (by decide) (lo2 := [(3, .int 0), (2, .int (-1)), (0, .ref x), (1, .int a0)]) rfl ?_
  refine g_lo (is := [2, 3, 1, 0]) (lo2 := [(0, .ref x), (1, .int a0), (2, .int (-1)), (3, .int 0)]) rfl ?_
  exact l_4 8 a0 (ra0) (-1) (rg_w rc_m1 (by decide) (by decide)) 0 (rg_w rc_0 (by decide) (by decide)) (ms_s (N := 8) (rg_w rc_0 (by decide) (by decide)) (by decide))
set_option maxRecDepth 100000 in
set_option maxHeartbeats 8000000 in
theorem c_X8_childrenOf {l : Launch} {D : va_G} {cy : Nat → ClassId} {L : List Nat} {κ ln : Nat → Nat} {R : Nat → Nat → Option Nat} {I : Nat → Nat → Int32} {J : Nat → Nat → Int64} {ow : Nat → Nat × Nat} (W9 : ∀ a ∈ L, Shp L κ ln R ow a) {x : Nat} (hLx : x ∈ L) (hkx : κ x = 8) (a0 : Int32) (ra0 : Rg 0 6 a0) (hU : Uv L κ ow I) : CtI l yX8_childrenOf cX8_childrenOf 4 (some .int) { frames := 0, cells := 0, slots := 0, locals := 0 } D cy L κ ln R I J [.ref x, .int a0] (fun r I2 J2 => I = I2 ∧ J = J2 ∧ Rg 0 127 r) := by
  refine CtI.of (by decide +kernel) (Nat.le_of_ble_eq_true rfl) ?_
  intro p e s m below meth c B K
  have C := B.1
  obtain ⟨b_408405, hb_408405, hb_408405L, hb_408405k, hb_408405n, hb_408405o⟩ := shp_a (W9 x hLx) hkx 2 14 7 rfl (by decide)
  refine g_lo (is := [0, 1]) (lo2 := [(0, .ref x), (1, .int a0)]) rfl ?_
  have l_4 : ∀ (n_4 : Nat) (v_408406 : Int32) (rv_408406 : Rg 0 6 v_408406) (v_408407 : Int32) (rv_408407 : Rg 0 127 v_408407) (v_408408 : Int32) (rv_408408 : Rg 0 7 v_408408) (hm_408409 : 7 < (v_408408 : Int32).toInt + (n_4 : Int)), WG p l e { frames := 0, cells := 0, slots := 0, locals := 0 } s m ([.ref x, .int a0] : List Value).toArray below meth c 4 0 0 (MQ below (Qi_ D cy L κ ln R (fun r I2 J2 => I = I2 ∧ J = J2 ∧ Rg 0 127 r)) ([.ref x, .int a0] : List Value).toArray s 0 0 (Al_ L)) D cy (Al_ L) s.heap L κ ln R I J 4 [(0, .ref x), (1, .int v_408406), (2, .int v_408407), (3, .int v_408408)] [] := by
    intro n_4
    induction n_4 with
    | zero =>
      intro v_408406 rv_408406 v_408407 rv_408407 v_408408 rv_408408 hm_408409
      exact ms_0 rv_408408 hm_408409
    | succ n_4 ih_4 =>
      intro v_408406 rv_408406 v_408407 rv_408407 v_408408 rv_408408 hm_408409
      have j_28 : ∀ (v_408410 : Int32) (rv_408410 : Rg 0 6 v_408410) (v_408411 : Int32) (rv_408411 : Rg 0 127 v_408411) (v_408412 : Int32) (rv_408412 : Rg 0 6 v_408412) (v_408413 : Int32) (rv_408413 : Rg 1 7 v_408413) (q_408414 : I x 5 = v_408413) (hm_408415 : 7 < (v_408412 : Int32).toInt + ((n_4 + 1 : Nat) : Int)), WG p l e { frames := 0, cells := 0, slots := 0, locals := 0 } s m ([.ref x, .int a0] : List Value).toArray below meth c 4 0 0 (MQ below (Qi_ D cy L κ ln R (fun r I2 J2 => I = I2 ∧ J = J2 ∧ Rg 0 127 r)) ([.ref x, .int a0] : List Value).toArray s 0 0 (Al_ L)) D cy (Al_ L) s.heap L κ ln R I J 28 [(0, .ref x), (1, .int v_408410), (2, .int v_408411), (3, .int v_408412)] [] := by
        intro v_408410 rv_408410 v_408411 rv_408411 v_408412 rv_408412 v_408413 rv_408413 q_408414 hm_408415
        obtain ⟨x_408416, hx_408416, rx_408416, tx_408416⟩ := ex_add (y := 1) 1 7 rv_408412 rc_1 (by decide) (by decide) (by decide) (by decide)
        refine g_iinc C dX8_childrenOf_28 (k := 3) (v := x_408416) rfl hx_408416 (by decide) (lo2 := [(3, .int x_408416), (0, .ref x), (1, .int v_408410), (2, .int v_408411)]) rfl ?_
        refine g_goto C (tgt := 4) dX8_childrenOf_31 (by decide) ?_
        refine g_lo (is := [1, 2, 3, 0]) (lo2 := [(0, .ref x), (1, .int v_408410), (2, .int v_408411), (3, .int x_408416)]) rfl ?_
        exact ih_4 v_408410 (rv_408410) v_408411 (rv_408411) x_408416 (rg_w rx_408416 (by decide) (by decide)) (ms_1 hm_408415 (ti_k tx_408416 rc_1) (by decide))
      refine g_iload_n C 3 dX8_childrenOf_4 rfl rfl ?_
      refine g_aload_n C 0 dX8_childrenOf_5 rfl rfl ?_
      obtain ⟨x_408417, hx_408417, rx_408417⟩ := ex_get (I := I) (a := x) (j := 5) (lo := 0) (hi := 7) hU hLx (ro_o hkx (by decide)) rfl
      refine g_getI C K hLx hkx f_8_28 (v := x_408417) hx_408417 dX8_childrenOf_6 ?_
      refine g_icmp_ge C (tgt := 34) dX8_childrenOf_9 (by decide) (fun h_408418 => ?_) (fun h_408418 => ?_)
      · skip
        refine g_iload_n C 2 dX8_childrenOf_34 rfl rfl ?_
        exact g_zret (ty := .int) (r := v_408407) B K rfl (rfl) ⟨rfl, rfl, rv_408407⟩ dX8_childrenOf_35
      · skip
        have r_408419 := lt_l (hi := 6) (nle h_408418) rv_408408 rx_408417 (by decide)
        have r_408420 := lt_r (lo := 1) (nle h_408418) rv_408408 rx_408417 (by decide)
        refine g_aload_n C 0 dX8_childrenOf_12 rfl rfl ?_
        refine g_getR C K hLx hkx f_8_19 hb_408405 dX8_childrenOf_13 ?_
        refine g_iload_n C 3 dX8_childrenOf_16 rfl rfl ?_
        obtain ⟨x_408421, hx_408421, rx_408421⟩ := ex_get (I := I) (a := b_408405) (j := v_408408.toNatClampNeg) (lo := (-1)) (hi := 6) hU hb_408405L (ro_a hb_408405k (by decide) hb_408405o hkx rfl) (rfl)
        refine h_iald C K hb_408405L hb_408405k (v := x_408421) (v_408408.toNatClampNeg) (rfl) (ix_0 r_408419 (by decide)) (ix_lt r_408419 (by decide) hb_408405n (by decide)) hx_408421 dX8_childrenOf_17 ?_
        refine g_iload_n C 1 dX8_childrenOf_18 rfl rfl ?_
        refine g_icmp_ne C (tgt := 28) dX8_childrenOf_19 (by decide) (fun h_408422 => ?_) (fun h_408422 => ?_)
        · skip
          refine g_lo (is := [0, 1, 2, 3]) (lo2 := [(0, .ref x), (1, .int v_408406), (2, .int v_408407), (3, .int v_408408)]) rfl ?_
          exact j_28 v_408406 (rv_408406) v_408407 (rv_408407) v_408408 (r_408419) x_408417 (r_408420) hx_408417 hm_408409
        · skip
          have r_408423 := (⟨(eq_rg (h_408422) rv_408406).1, (rx_408421).2⟩ : Rg 0 6 x_408421)
          refine g_iload_n C 2 dX8_childrenOf_22 rfl rfl ?_
          refine g_iconst C (v := 1) dX8_childrenOf_23 (by decide) ?_
          refine g_iload_n C 3 dX8_childrenOf_24 rfl rfl ?_
          obtain ⟨x_408424, hx_408424, rx_408424⟩ := ex_shl (x := 1) (y := v_408408) 6 64 rfl (r_408419) (by decide)
          refine g_ishl C (v := x_408424) dX8_childrenOf_25 hx_408424 ?_
          obtain ⟨x_408425, hx_408425, rx_408425⟩ := ex_or 7 (x := v_408407) (y := x_408424) (b := 127) (c := 64) (rv_408407) (rg_w rx_408424 (by decide) (by decide)) (by decide) (by decide) (by decide) 127 (by decide)
          refine g_ior C (v := x_408425) dX8_childrenOf_26 hx_408425 ?_
          refine g_istore_n C dX8_childrenOf_27 rfl (by decide) (lo2 := [(2, .int x_408425), (0, .ref x), (1, .int v_408406), (3, .int v_408408)]) rfl ?_
          refine g_lo (is := [1, 2, 0, 3]) (lo2 := [(0, .ref x), (1, .int v_408406), (2, .int x_408425), (3, .int v_408408)]) rfl ?_
          exact j_28 v_408406 (rv_408406) x_408425 (rx_408425) v_408408 (r_408419) x_408417 (r_408420) hx_408417 hm_408409
  refine g_iconst C (v := 0) dX8_childrenOf_0 (by decide) ?_
  refine g_istore_n C dX8_childrenOf_1 rfl (by decide) (lo2 := [(2, .int 0), (0, .ref x), (1, .int a0)]) rfl ?_
  refine g_iconst C (v := 0) dX8_childrenOf_2 (by decide) ?_
  refine g_istore_n C dX8_childrenOf_3 rfl (by decide) (lo2 := [(3, .int 0), (2, .int 0), (0, .ref x), (1, .int a0)]) rfl ?_
  refine g_lo (is := [2, 3, 1, 0]) (lo2 := [(0, .ref x), (1, .int a0), (2, .int 0), (3, .int 0)]) rfl ?_
  exact l_4 8 a0 (ra0) 0 (rg_w rc_0 (by decide) (by decide)) 0 (rg_w rc_0 (by decide) (by decide)) (ms_s (N := 8) (rg_w rc_0 (by decide) (by decide)) (by decide))
set_option maxRecDepth 100000 in
set_option maxHeartbeats 8000000 in
theorem c_X1_heirOf {l : Launch} {D : va_G} {cy : Nat → ClassId} {L : List Nat} {κ ln : Nat → Nat} {R : Nat → Nat → Option Nat} {I : Nat → Nat → Int32} {J : Nat → Nat → Int64} {ow : Nat → Nat × Nat} (W9 : ∀ a ∈ L, Shp L κ ln R ow a) {x : Nat} (hLx : x ∈ L) (hkx : κ x = 1) (a0 : Int32) (a1 : Int32) (ra0 : Rg 0 6 a0) (hU : Uv L κ ow I) : CtI l yX1_heirOf cX1_heirOf 5 (some .int) { frames := 1, cells := 0, slots := 0, locals := 24 } D cy L κ ln R I J [.ref x, .int a0, .int a1] (fun r I2 J2 => I = I2 ∧ J = J2 ∧ Rg (-1) 6 r) := by
  refine CtI.of (by decide +kernel) (Nat.le_of_ble_eq_true rfl) ?_
  intro p e s m below meth c B K
  have C := B.1
  obtain ⟨b_408518, hb_408518, hb_408518L, hb_408518k⟩ := shp_o (W9 x hLx) hkx 0 8 rfl (by decide)
  refine g_lo (is := [0, 1, 2]) (lo2 := [(0, .ref x), (1, .int a0), (2, .int a1)]) rfl ?_
  refine g_aload_n C 0 dX1_heirOf_0 rfl rfl ?_
  refine g_getR C K hLx hkx f_1_52 hb_408518 dX1_heirOf_1 ?_
  refine g_callVI C K (c_X8_everybody W9 hb_408518L hb_408518k   hU) hb_408518L hb_408518k (by decide) rfl v_1_62 rfl ⟨rfl, rfl⟩ ⟨Nat.le_of_ble_eq_true rfl, Nat.le_of_ble_eq_true rfl⟩ (Nat.le_of_ble_eq_true rfl) ⟨Nat.le_of_ble_eq_true rfl, Nat.le_of_ble_eq_true rfl⟩ dX1_heirOf_4 rfl (st := []) (fun x_408519 I_408520 J_408521 h_408522 => ?_)
  obtain ⟨rfl, rfl, rx_408519⟩ := h_408522
  refine g_aload_n C 0 dX1_heirOf_7 rfl rfl ?_
  obtain ⟨x_408523, hx_408523, rx_408523⟩ := ex_get (I := I) (a := x) (j := 7) (lo := (-2147483648)) (hi := 2147483647) hU hLx (ro_o hkx (by decide)) rfl
  refine g_getI C K hLx hkx f_1_30 (v := x_408523) hx_408523 dX1_heirOf_8 ?_
  refine g_iconst C (v := (-1)) dX1_heirOf_11 (by decide) ?_
  obtain ⟨x_408524, hx_408524, rx_408524⟩ := ex_any (z0 := x_408523 ^^^ (-1))
  refine g_ixor C (v := x_408524) dX1_heirOf_12 hx_408524 ?_
  obtain ⟨x_408525, hx_408525, rx_408525⟩ := ex_andl (x := x_408519) (y := x_408524) (b := 127) (rx_408519)
  refine g_iand C (v := x_408525) dX1_heirOf_13 hx_408525 ?_
  refine g_iload_n C 2 dX1_heirOf_14 rfl rfl ?_
  refine g_iconst C (v := (-1)) dX1_heirOf_15 (by decide) ?_
  obtain ⟨x_408526, hx_408526, rx_408526⟩ := ex_any (z0 := a1 ^^^ (-1))
  refine g_ixor C (v := x_408526) dX1_heirOf_16 hx_408526 ?_
  obtain ⟨x_408527, hx_408527, rx_408527⟩ := ex_andl (x := x_408525) (y := x_408526) (b := 127) (rx_408525)
  refine g_iand C (v := x_408527) dX1_heirOf_17 hx_408527 ?_
  refine g_iconst C (v := 1) dX1_heirOf_18 (by decide) ?_
  refine g_iload_n C 1 dX1_heirOf_19 rfl rfl ?_
  obtain ⟨x_408528, hx_408528, rx_408528⟩ := ex_shl (x := 1) (y := a0) 6 64 rfl (ra0) (by decide)
  refine g_ishl C (v := x_408528) dX1_heirOf_20 hx_408528 ?_
  refine g_iconst C (v := (-1)) dX1_heirOf_21 (by decide) ?_
  obtain ⟨x_408529, hx_408529, rx_408529⟩ := ex_any (z0 := x_408528 ^^^ (-1))
  refine g_ixor C (v := x_408529) dX1_heirOf_22 hx_408529 ?_
  obtain ⟨x_408530, hx_408530, rx_408530⟩ := ex_andl (x := x_408527) (y := x_408529) (b := 127) (rx_408527)
  refine g_iand C (v := x_408530) dX1_heirOf_23 hx_408530 ?_
  refine g_istore_n C dX1_heirOf_24 rfl (by decide) (lo2 := [(3, .int x_408530), (0, .ref x), (1, .int a0), (2, .int a1)]) rfl ?_
  refine g_aload_n C 1 dX1_heirOf_25 rfl rfl ?_
  refine g_getR C K hLx hkx f_1_52 hb_408518 dX1_heirOf_26 ?_
  obtain ⟨x_408531, hx_408531, rx_408531⟩ := ex_get (I := I) (a := b_408518) (j := 7) (lo := (-2147483648)) (hi := 2147483647) hU hb_408518L (ro_o hb_408518k (by decide)) rfl
  refine g_getI C K hb_408518L hb_408518k f_1_78 (v := x_408531) hx_408531 dX1_heirOf_29 ?_
  refine g_iconst C (v := 2) dX1_heirOf_32 (by decide) ?_
  refine g_icmp_ne C (tgt := 42) dX1_heirOf_33 (by decide) (fun h_408532 => ?_) (fun h_408532 => ?_)
  · skip
    have n_408533 : ¬ x_408531 = 2 := h_408532
    refine g_aload_n C 1 dX1_heirOf_42 rfl rfl ?_
    refine g_getR C K hLx hkx f_1_52 hb_408518 dX1_heirOf_43 ?_
    refine g_getI C K hb_408518L hb_408518k f_1_78 (v := x_408531) hx_408531 dX1_heirOf_46 ?_
    refine g_iconst C (v := 1) dX1_heirOf_49 (by decide) ?_
    refine g_icmp_ne C (tgt := 66) dX1_heirOf_50 (by decide) (fun h_408534 => ?_) (fun h_408534 => ?_)
    · skip
      have n_408535 : ¬ x_408531 = 1 := h_408534
      refine g_iconst C (v := 0) dX1_heirOf_66 (by decide) ?_
      refine g_istore C dX1_heirOf_67 (by decide) (lo2 := [(4, .int 0), (3, .int x_408530), (0, .ref x), (1, .int a0), (2, .int a1)]) rfl ?_
      refine g_aload_n C 2 dX1_heirOf_69 rfl rfl ?_
      refine g_iload_n C 3 dX1_heirOf_70 rfl rfl ?_
      refine g_iload C 0 dX1_heirOf_71 rfl ?_
      refine g_if_eq C (tgt := 81) dX1_heirOf_73 (by decide) (fun h_408536 => ?_) (fun h_408536 => ?_)
      · skip
        refine g_iload_n C 1 dX1_heirOf_81 rfl rfl ?_
        refine g_callVI C K (c_X1_firstBehind W9 hLx hkx a0 x_408530 (ra0) (rx_408530) hU) hLx hkx (by decide) rfl v_1_88 rfl ⟨rfl, rfl⟩ ⟨Nat.le_of_ble_eq_true rfl, Nat.le_of_ble_eq_true rfl⟩ (Nat.le_of_ble_eq_true rfl) ⟨Nat.le_of_ble_eq_true rfl, Nat.le_of_ble_eq_true rfl⟩ dX1_heirOf_82 rfl (st := []) (fun x_408537 I_408538 J_408539 h_408540 => ?_)
        obtain ⟨rfl, rfl, rx_408537⟩ := h_408540
        exact g_zret (ty := .int) (r := x_408537) B K rfl (rfl) ⟨rfl, rfl, rx_408537⟩ dX1_heirOf_85
      · skip
        exact absurd h_408536 (by decide)
    · skip
      have r_408541 := (⟨(eq_rg (h_408534) rc_1).1, (eq_rg (h_408534) rc_1).2⟩ : Rg 1 1 x_408531)
      refine g_iload_n C 0 dX1_heirOf_53 rfl rfl ?_
      refine g_aload_n C 1 dX1_heirOf_54 rfl rfl ?_
      refine g_getR C K hLx hkx f_1_52 hb_408518 dX1_heirOf_55 ?_
      refine g_iload_n C 2 dX1_heirOf_58 rfl rfl ?_
      refine g_callVI C K (c_X8_childrenOf W9 hb_408518L hb_408518k a0 (ra0) hU) hb_408518L hb_408518k (by decide) rfl v_1_85 rfl ⟨rfl, rfl⟩ ⟨Nat.le_of_ble_eq_true rfl, Nat.le_of_ble_eq_true rfl⟩ (Nat.le_of_ble_eq_true rfl) ⟨Nat.le_of_ble_eq_true rfl, Nat.le_of_ble_eq_true rfl⟩ dX1_heirOf_59 rfl (st := [.int x_408530]) (fun x_408542 I_408543 J_408544 h_408545 => ?_)
      obtain ⟨rfl, rfl, rx_408542⟩ := h_408545
      obtain ⟨x_408546, hx_408546, rx_408546⟩ := ex_andl (x := x_408530) (y := x_408542) (b := 127) (rx_408530)
      refine g_iand C (v := x_408546) dX1_heirOf_62 hx_408546 ?_
      refine g_goto C (tgt := 67) dX1_heirOf_63 (by decide) ?_
      refine g_istore C dX1_heirOf_67 (by decide) (lo2 := [(4, .int x_408546), (3, .int x_408530), (0, .ref x), (1, .int a0), (2, .int a1)]) rfl ?_
      refine g_aload_n C 2 dX1_heirOf_69 rfl rfl ?_
      refine g_iload_n C 3 dX1_heirOf_70 rfl rfl ?_
      refine g_iload C 0 dX1_heirOf_71 rfl ?_
      refine g_if_eq C (tgt := 81) dX1_heirOf_73 (by decide) (fun h_408547 => ?_) (fun h_408547 => ?_)
      · skip
        have r_408548 := (⟨(rx_408546).1, (eq_rg (h_408547) rc_0).2⟩ : Rg 0 0 x_408546)
        refine g_iload_n C 1 dX1_heirOf_81 rfl rfl ?_
        refine g_callVI C K (c_X1_firstBehind W9 hLx hkx a0 x_408530 (ra0) (rx_408530) hU) hLx hkx (by decide) rfl v_1_88 rfl ⟨rfl, rfl⟩ ⟨Nat.le_of_ble_eq_true rfl, Nat.le_of_ble_eq_true rfl⟩ (Nat.le_of_ble_eq_true rfl) ⟨Nat.le_of_ble_eq_true rfl, Nat.le_of_ble_eq_true rfl⟩ dX1_heirOf_82 rfl (st := []) (fun x_408549 I_408550 J_408551 h_408552 => ?_)
        obtain ⟨rfl, rfl, rx_408549⟩ := h_408552
        exact g_zret (ty := .int) (r := x_408549) B K rfl (rfl) ⟨rfl, rfl, rx_408549⟩ dX1_heirOf_85
      · skip
        have n_408553 : ¬ x_408546 = 0 := h_408547
        have r_408554 := ne_lo (lo := 1) n_408553 rx_408546 rc_0 rfl (by decide)
        refine g_iload C 0 dX1_heirOf_76 rfl ?_
        refine g_goto C (tgt := 82) dX1_heirOf_78 (by decide) ?_
        refine g_callVI C K (c_X1_firstBehind W9 hLx hkx a0 x_408546 (ra0) (rg_w r_408554 (by decide) (by decide)) hU) hLx hkx (by decide) rfl v_1_88 rfl ⟨rfl, rfl⟩ ⟨Nat.le_of_ble_eq_true rfl, Nat.le_of_ble_eq_true rfl⟩ (Nat.le_of_ble_eq_true rfl) ⟨Nat.le_of_ble_eq_true rfl, Nat.le_of_ble_eq_true rfl⟩ dX1_heirOf_82 rfl (st := []) (fun x_408555 I_408556 J_408557 h_408558 => ?_)
        obtain ⟨rfl, rfl, rx_408555⟩ := h_408558
        exact g_zret (ty := .int) (r := x_408555) B K rfl (rfl) ⟨rfl, rfl, rx_408555⟩ dX1_heirOf_85
  · skip
    have r_408559 := (⟨(eq_rg (h_408532) rc_2).1, (eq_rg (h_408532) rc_2).2⟩ : Rg 2 2 x_408531)
    refine g_aload_n C 1 dX1_heirOf_36 rfl rfl ?_
    refine g_iload_n C 0 dX1_heirOf_37 rfl rfl ?_
    refine g_callVI C K (c_X1_leastFed W9 hLx hkx x_408530 (rx_408530) hU) hLx hkx (by decide) rfl v_1_81 rfl ⟨rfl, rfl⟩ ⟨Nat.le_of_ble_eq_true rfl, Nat.le_of_ble_eq_true rfl⟩ (Nat.le_of_ble_eq_true rfl) ⟨Nat.le_of_ble_eq_true rfl, Nat.le_of_ble_eq_true rfl⟩ dX1_heirOf_38 rfl (st := []) (fun x_408560 I_408561 J_408562 h_408563 => ?_)
    obtain ⟨rfl, rfl, rx_408560⟩ := h_408563
    exact g_zret (ty := .int) (r := x_408560) B K rfl (rfl) ⟨rfl, rfl, rx_408560⟩ dX1_heirOf_41
set_option maxRecDepth 100000 in
set_option maxHeartbeats 8000000 in
theorem c_X11_heir {l : Launch} {D : va_G} {cy : Nat → ClassId} {L : List Nat} {κ ln : Nat → Nat} {R : Nat → Nat → Option Nat} {I : Nat → Nat → Int32} {J : Nat → Nat → Int64} {ow : Nat → Nat × Nat} (W9 : ∀ a ∈ L, Shp L κ ln R ow a) {x : Nat} (hLx : x ∈ L) (hkx : κ x = 11) (a0 : Int32) (hU : Uv L κ ow I) : CtI l yX11_heir cX11_heir 2 (some .int) { frames := 2, cells := 0, slots := 0, locals := 48 } D cy L κ ln R I J [.ref x, .int a0] (fun r I2 J2 => I = I2 ∧ J = J2 ∧ Rg (-1) 6 r) := by
  refine CtI.of (by decide +kernel) (Nat.le_of_ble_eq_true rfl) ?_
  intro p e s m below meth c B K
  have C := B.1
  obtain ⟨b_408596, hb_408596, hb_408596L, hb_408596k⟩ := shp_o (W9 x hLx) hkx 1 8 rfl (by decide)
  obtain ⟨b_408597, hb_408597, hb_408597L, hb_408597k⟩ := shp_o (W9 x hLx) hkx 2 1 rfl (by decide)
  refine g_lo (is := [0, 1]) (lo2 := [(0, .ref x), (1, .int a0)]) rfl ?_
  refine g_aload_n C 0 dX11_heir_0 rfl rfl ?_
  refine g_getR C K hLx hkx f_11_19 hb_408596 dX11_heir_1 ?_
  refine g_iload_n C 1 dX11_heir_4 rfl rfl ?_
  refine g_callVI C K (c_X8_hasPerson W9 hb_408596L hb_408596k a0  hU) hb_408596L hb_408596k (by decide) rfl v_11_133 rfl ⟨rfl, rfl⟩ ⟨Nat.le_of_ble_eq_true rfl, Nat.le_of_ble_eq_true rfl⟩ (Nat.le_of_ble_eq_true rfl) ⟨Nat.le_of_ble_eq_true rfl, Nat.le_of_ble_eq_true rfl⟩ dX11_heir_5 rfl (st := []) (fun x_408598 I_408599 J_408600 h_408601 => ?_)
  obtain ⟨rfl, rfl, rx_408598, ex_408598⟩ := h_408601
  refine g_if_eq C (tgt := 29) dX11_heir_8 (by decide) (fun h_408602 => ?_) (fun h_408602 => ?_)
  · skip
    have r_408603 := (⟨(rx_408598).1, (eq_rg (h_408602) rc_0).2⟩ : Rg 0 0 x_408598)
    refine g_iconst C (v := (-1)) dX11_heir_29 (by decide) ?_
    exact g_zret (ty := .int) (r := (-1)) B K rfl (rfl) ⟨rfl, rfl, rg_w rc_m1 (by decide) (by decide)⟩ dX11_heir_30
  · skip
    have n_408604 : ¬ x_408598 = 0 := h_408602
    have r_408605 := ne_lo (lo := 1) n_408604 rx_408598 rc_0 rfl (by decide)
    have r_408606 := rg_i (rg_all a0) ((ex_408598) (rg_nz r_408605 (by decide))) (lo := 0) (hi := 6) (by decide) (by decide)
    refine g_aload_n C 0 dX11_heir_11 rfl rfl ?_
    refine g_getR C K hLx hkx f_11_28 hb_408597 dX11_heir_12 ?_
    refine g_iload_n C 1 dX11_heir_15 rfl rfl ?_
    refine g_aload_n C 0 dX11_heir_16 rfl rfl ?_
    refine g_getR C K hLx hkx f_11_28 hb_408597 dX11_heir_17 ?_
    obtain ⟨x_408607, hx_408607, rx_408607⟩ := ex_get (I := I) (a := b_408597) (j := 8) (lo := (-2147483648)) (hi := 2147483647) hU hb_408597L (ro_o hb_408597k (by decide)) rfl
    refine g_getI C K hb_408597L hb_408597k f_11_154 (v := x_408607) hx_408607 dX11_heir_20 ?_
    refine g_callVI C K (c_X1_heirOf W9 hb_408597L hb_408597k a0 x_408607 (r_408606) hU) hb_408597L hb_408597k (by decide) rfl v_11_263 rfl ⟨rfl, rfl⟩ ⟨Nat.le_of_ble_eq_true rfl, Nat.le_of_ble_eq_true rfl⟩ (Nat.le_of_ble_eq_true rfl) ⟨Nat.le_of_ble_eq_true rfl, Nat.le_of_ble_eq_true rfl⟩ dX11_heir_23 rfl (st := []) (fun x_408608 I_408609 J_408610 h_408611 => ?_)
    obtain ⟨rfl, rfl, rx_408608⟩ := h_408611
    refine g_goto C (tgt := 30) dX11_heir_26 (by decide) ?_
    exact g_zret (ty := .int) (r := x_408608) B K rfl (rfl) ⟨rfl, rfl, rx_408608⟩ dX11_heir_30
set_option maxRecDepth 100000 in
set_option maxHeartbeats 8000000 in
theorem c_X11_line {l : Launch} {D : va_G} {cy : Nat → ClassId} {L : List Nat} {κ ln : Nat → Nat} {R : Nat → Nat → Option Nat} {I : Nat → Nat → Int32} {J : Nat → Nat → Int64} {ow : Nat → Nat × Nat} (W9 : ∀ a ∈ L, Shp L κ ln R ow a) {x : Nat} (hLx : x ∈ L) (hkx : κ x = 11) (a0 : Int32) (a1 : Int32) (hU : Uv L κ ow I) : CtI l yX11_line cX11_line 6 (some .int) { frames := 2, cells := 0, slots := 0, locals := 48 } D cy L κ ln R I J [.ref x, .int a0, .int a1] (fun r I2 J2 => I = I2 ∧ J = J2 ∧ Rg (-1) 6 r) := by
  refine CtI.of (by decide +kernel) (Nat.le_of_ble_eq_true rfl) ?_
  intro p e s m below meth c B K
  have C := B.1
  obtain ⟨b_408767, hb_408767, hb_408767L, hb_408767k⟩ := shp_o (W9 x hLx) hkx 1 8 rfl (by decide)
  obtain ⟨b_408768, hb_408768, hb_408768L, hb_408768k⟩ := shp_o (W9 x hLx) hkx 2 1 rfl (by decide)
  refine g_lo (is := [0, 1, 2]) (lo2 := [(0, .ref x), (1, .int a0), (2, .int a1)]) rfl ?_
  have l_45 : ∀ (n_45 : Nat) (v_408769 : Int32) (rv_408769 : Rg 0 6 v_408769) (v_408770 : Int32) (rv_408770 : Rg 0 6 v_408770) (v_408771 : Int32) (v_408772 : Int32) (rv_408772 : Rg (-1) 6 v_408772) (v_408773 : Int32) (rv_408773 : Rg 0 6 v_408773) (v_408774 : Int32) (q_408775 : I b_408768 8 = v_408774) (hm_408776 : 6 < (v_408773 : Int32).toInt + (n_45 : Int)), WG p l e { frames := 2, cells := 0, slots := 0, locals := 48 } s m ([.ref x, .int a0, .int a1] : List Value).toArray below meth c 6 0 0 (MQ below (Qi_ D cy L κ ln R (fun r I2 J2 => I = I2 ∧ J = J2 ∧ Rg (-1) 6 r)) ([.ref x, .int a0, .int a1] : List Value).toArray s 0 0 (Al_ L)) D cy (Al_ L) s.heap L κ ln R I J 45 [(0, .ref x), (1, .int v_408769), (2, .int v_408770), (3, .int v_408771), (4, .int v_408772), (5, .int v_408773)] [] := by
    intro n_45
    induction n_45 with
    | zero =>
      intro v_408769 rv_408769 v_408770 rv_408770 v_408771 v_408772 rv_408772 v_408773 rv_408773 v_408774 q_408775 hm_408776
      exact ms_0 rv_408773 hm_408776
    | succ n_45 ih_45 =>
      intro v_408769 rv_408769 v_408770 rv_408770 v_408771 v_408772 rv_408772 v_408773 rv_408773 v_408774 q_408775 hm_408776
      refine g_iload C 5 dX11_line_45 rfl ?_
      refine g_iload_n C 2 dX11_line_47 rfl rfl ?_
      refine g_icmp_ge C (tgt := 81) dX11_line_48 (by decide) (fun h_408777 => ?_) (fun h_408777 => ?_)
      · skip
        refine g_iload C 4 dX11_line_81 rfl ?_
        exact g_zret (ty := .int) (r := v_408772) B K rfl (rfl) ⟨rfl, rfl, rv_408772⟩ dX11_line_83
      · skip
        have r_408778 := lt_l (hi := 5) (nle h_408777) rv_408773 rv_408770 (by decide)
        have r_408779 := lt_r (lo := 1) (nle h_408777) rv_408773 rv_408770 (by decide)
        refine g_iload C 4 dX11_line_51 rfl ?_
        refine g_iconst C (v := (-1)) dX11_line_53 (by decide) ?_
        refine g_icmp_eq C (tgt := 81) dX11_line_54 (by decide) (fun h_408780 => ?_) (fun h_408780 => ?_)
        · skip
          have r_408781 := (⟨(rv_408772).1, (eq_rg (h_408780) rc_m1).2⟩ : Rg (-1) (-1) v_408772)
          refine g_iload C 4 dX11_line_81 rfl ?_
          exact g_zret (ty := .int) (r := v_408772) B K rfl (rfl) ⟨rfl, rfl, rg_w r_408781 (by decide) (by decide)⟩ dX11_line_83
        · skip
          have n_408782 : ¬ v_408772 = (-1) := h_408780
          have r_408783 := ne_lo (lo := 0) n_408782 rv_408772 rc_m1 rfl (by decide)
          refine g_iload_n C 3 dX11_line_57 rfl rfl ?_
          refine g_iconst C (v := 1) dX11_line_58 (by decide) ?_
          refine g_iload C 4 dX11_line_59 rfl ?_
          obtain ⟨x_408784, hx_408784, rx_408784⟩ := ex_shl (x := 1) (y := v_408772) 6 64 rfl (r_408783) (by decide)
          refine g_ishl C (v := x_408784) dX11_line_61 hx_408784 ?_
          obtain ⟨x_408785, hx_408785, rx_408785⟩ := ex_any (z0 := v_408771 ||| x_408784)
          refine g_ior C (v := x_408785) dX11_line_62 hx_408785 ?_
          refine g_istore_n C dX11_line_63 rfl (by decide) (lo2 := [(3, .int x_408785), (0, .ref x), (1, .int v_408769), (2, .int v_408770), (4, .int v_408772), (5, .int v_408773)]) rfl ?_
          refine g_aload_n C 1 dX11_line_64 rfl rfl ?_
          refine g_getR C K hLx hkx f_11_28 hb_408768 dX11_line_65 ?_
          refine g_iload_n C 2 dX11_line_68 rfl rfl ?_
          refine g_iload_n C 0 dX11_line_69 rfl rfl ?_
          refine g_callVI C K (c_X1_heirOf W9 hb_408768L hb_408768k v_408769 x_408785 (rv_408769) hU) hb_408768L hb_408768k (by decide) rfl v_11_263 rfl ⟨rfl, rfl⟩ ⟨Nat.le_of_ble_eq_true rfl, Nat.le_of_ble_eq_true rfl⟩ (Nat.le_of_ble_eq_true rfl) ⟨Nat.le_of_ble_eq_true rfl, Nat.le_of_ble_eq_true rfl⟩ dX11_line_70 rfl (st := []) (fun x_408786 I_408787 J_408788 h_408789 => ?_)
          obtain ⟨rfl, rfl, rx_408786⟩ := h_408789
          refine g_istore C dX11_line_73 (by decide) (lo2 := [(4, .int x_408786), (3, .int x_408785), (0, .ref x), (1, .int v_408769), (2, .int v_408770), (5, .int v_408773)]) rfl ?_
          obtain ⟨x_408790, hx_408790, rx_408790, tx_408790⟩ := ex_add (y := 1) 1 6 r_408778 rc_1 (by decide) (by decide) (by decide) (by decide)
          refine g_iinc C dX11_line_75 (k := 5) (v := x_408790) rfl hx_408790 (by decide) (lo2 := [(5, .int x_408790), (4, .int x_408786), (3, .int x_408785), (0, .ref x), (1, .int v_408769), (2, .int v_408770)]) rfl ?_
          refine g_goto C (tgt := 45) dX11_line_78 (by decide) ?_
          refine g_lo (is := [3, 4, 5, 2, 1, 0]) (lo2 := [(0, .ref x), (1, .int v_408769), (2, .int v_408770), (3, .int x_408785), (4, .int x_408786), (5, .int x_408790)]) rfl ?_
          exact ih_45 v_408769 (rv_408769) v_408770 (rg_w r_408779 (by decide) (by decide)) x_408785 x_408786 (rx_408786) x_408790 (rg_w rx_408790 (by decide) (by decide)) v_408774 q_408775 (ms_1 hm_408776 (ti_k tx_408790 rc_1) (by decide))
  refine g_aload_n C 0 dX11_line_0 rfl rfl ?_
  refine g_getR C K hLx hkx f_11_19 hb_408767 dX11_line_1 ?_
  refine g_iload_n C 1 dX11_line_4 rfl rfl ?_
  refine g_callVI C K (c_X8_hasPerson W9 hb_408767L hb_408767k a0  hU) hb_408767L hb_408767k (by decide) rfl v_11_133 rfl ⟨rfl, rfl⟩ ⟨Nat.le_of_ble_eq_true rfl, Nat.le_of_ble_eq_true rfl⟩ (Nat.le_of_ble_eq_true rfl) ⟨Nat.le_of_ble_eq_true rfl, Nat.le_of_ble_eq_true rfl⟩ dX11_line_5 rfl (st := []) (fun x_408791 I_408792 J_408793 h_408794 => ?_)
  obtain ⟨rfl, rfl, rx_408791, ex_408791⟩ := h_408794
  refine g_if_eq C (tgt := 21) dX11_line_8 (by decide) (fun h_408795 => ?_) (fun h_408795 => ?_)
  · skip
    have r_408796 := (⟨(rx_408791).1, (eq_rg (h_408795) rc_0).2⟩ : Rg 0 0 x_408791)
    refine g_iconst C (v := (-1)) dX11_line_21 (by decide) ?_
    exact g_zret (ty := .int) (r := (-1)) B K rfl (rfl) ⟨rfl, rfl, rg_w rc_m1 (by decide) (by decide)⟩ dX11_line_22
  · skip
    have n_408797 : ¬ x_408791 = 0 := h_408795
    have r_408798 := ne_lo (lo := 1) n_408797 rx_408791 rc_0 rfl (by decide)
    have r_408799 := rg_i (rg_all a0) ((ex_408791) (rg_nz r_408798 (by decide))) (lo := 0) (hi := 6) (by decide) (by decide)
    refine g_iload_n C 2 dX11_line_11 rfl rfl ?_
    refine g_if_lt C (tgt := 21) dX11_line_12 (by decide) (fun h_408800 => ?_) (fun h_408800 => ?_)
    · skip
      have r_408801 := lt_l (hi := (-1)) (h_408800) (rg_all a1) rc_0 (by decide)
      refine g_iconst C (v := (-1)) dX11_line_21 (by decide) ?_
      exact g_zret (ty := .int) (r := (-1)) B K rfl (rfl) ⟨rfl, rfl, rg_w rc_m1 (by decide) (by decide)⟩ dX11_line_22
    · skip
      have r_408802 := le_r (nlt h_408800) rc_0 (rg_all a1)
      refine g_iload_n C 2 dX11_line_15 rfl rfl ?_
      refine g_bipush C (v := 7) dX11_line_16 (by decide) ?_
      refine g_icmp_lt C (tgt := 23) dX11_line_18 (by decide) (fun h_408803 => ?_) (fun h_408803 => ?_)
      · skip
        have r_408804 := lt_l (hi := 6) (h_408803) r_408802 rc_7 (by decide)
        refine g_aload_n C 0 dX11_line_23 rfl rfl ?_
        refine g_getR C K hLx hkx f_11_28 hb_408768 dX11_line_24 ?_
        obtain ⟨x_408805, hx_408805, rx_408805⟩ := ex_get (I := I) (a := b_408768) (j := 8) (lo := (-2147483648)) (hi := 2147483647) hU hb_408768L (ro_o hb_408768k (by decide)) rfl
        refine g_getI C K hb_408768L hb_408768k f_11_154 (v := x_408805) hx_408805 dX11_line_27 ?_
        refine g_istore_n C dX11_line_30 rfl (by decide) (lo2 := [(3, .int x_408805), (0, .ref x), (1, .int a0), (2, .int a1)]) rfl ?_
        refine g_aload_n C 1 dX11_line_31 rfl rfl ?_
        refine g_getR C K hLx hkx f_11_28 hb_408768 dX11_line_32 ?_
        refine g_iload_n C 2 dX11_line_35 rfl rfl ?_
        refine g_iload_n C 0 dX11_line_36 rfl rfl ?_
        refine g_callVI C K (c_X1_heirOf W9 hb_408768L hb_408768k a0 x_408805 (r_408799) hU) hb_408768L hb_408768k (by decide) rfl v_11_263 rfl ⟨rfl, rfl⟩ ⟨Nat.le_of_ble_eq_true rfl, Nat.le_of_ble_eq_true rfl⟩ (Nat.le_of_ble_eq_true rfl) ⟨Nat.le_of_ble_eq_true rfl, Nat.le_of_ble_eq_true rfl⟩ dX11_line_37 rfl (st := []) (fun x_408806 I_408807 J_408808 h_408809 => ?_)
        obtain ⟨rfl, rfl, rx_408806⟩ := h_408809
        refine g_istore C dX11_line_40 (by decide) (lo2 := [(4, .int x_408806), (3, .int x_408805), (0, .ref x), (1, .int a0), (2, .int a1)]) rfl ?_
        refine g_iconst C (v := 0) dX11_line_42 (by decide) ?_
        refine g_istore C dX11_line_43 (by decide) (lo2 := [(5, .int 0), (4, .int x_408806), (3, .int x_408805), (0, .ref x), (1, .int a0), (2, .int a1)]) rfl ?_
        refine g_lo (is := [3, 4, 5, 2, 1, 0]) (lo2 := [(0, .ref x), (1, .int a0), (2, .int a1), (3, .int x_408805), (4, .int x_408806), (5, .int 0)]) rfl ?_
        exact l_45 7 a0 (r_408799) a1 (r_408804) x_408805 x_408806 (rx_408806) 0 (rg_w rc_0 (by decide) (by decide)) x_408805 hx_408805 (ms_s (N := 7) (rg_w rc_0 (by decide) (by decide)) (by decide))
      · skip
        have r_408810 := le_r (nlt h_408803) rc_7 r_408802
        refine g_iconst C (v := (-1)) dX11_line_21 (by decide) ?_
        exact g_zret (ty := .int) (r := (-1)) B K rfl (rfl) ⟨rfl, rfl, rg_w rc_m1 (by decide) (by decide)⟩ dX11_line_22
set_option maxRecDepth 100000 in
set_option maxHeartbeats 8000000 in
theorem c_X1_living {l : Launch} {D : va_G} {cy : Nat → ClassId} {L : List Nat} {κ ln : Nat → Nat} {R : Nat → Nat → Option Nat} {I : Nat → Nat → Int32} {J : Nat → Nat → Int64} {ow : Nat → Nat × Nat} (W9 : ∀ a ∈ L, Shp L κ ln R ow a) {x : Nat} (hLx : x ∈ L) (hkx : κ x = 1) (hU : Uv L κ ow I) : CtI l yX1_living cX1_living 1 (some .int) { frames := 1, cells := 0, slots := 0, locals := 20 } D cy L κ ln R I J [.ref x] (fun r I2 J2 => I = I2 ∧ J = J2 ∧ Rg 0 127 r) := by
  refine CtI.of (by decide +kernel) (Nat.le_of_ble_eq_true rfl) ?_
  intro p e s m below meth c B K
  have C := B.1
  obtain ⟨b_408827, hb_408827, hb_408827L, hb_408827k⟩ := shp_o (W9 x hLx) hkx 0 8 rfl (by decide)
  refine g_lo (is := [0]) (lo2 := [(0, .ref x)]) rfl ?_
  refine g_aload_n C 0 dX1_living_0 rfl rfl ?_
  refine g_getR C K hLx hkx f_1_52 hb_408827 dX1_living_1 ?_
  refine g_callVI C K (c_X8_everybody W9 hb_408827L hb_408827k   hU) hb_408827L hb_408827k (by decide) rfl v_1_62 rfl ⟨rfl, rfl⟩ ⟨Nat.le_of_ble_eq_true rfl, Nat.le_of_ble_eq_true rfl⟩ (Nat.le_of_ble_eq_true rfl) ⟨Nat.le_of_ble_eq_true rfl, Nat.le_of_ble_eq_true rfl⟩ dX1_living_4 rfl (st := []) (fun x_408828 I_408829 J_408830 h_408831 => ?_)
  obtain ⟨rfl, rfl, rx_408828⟩ := h_408831
  refine g_aload_n C 0 dX1_living_7 rfl rfl ?_
  obtain ⟨x_408832, hx_408832, rx_408832⟩ := ex_get (I := I) (a := x) (j := 7) (lo := (-2147483648)) (hi := 2147483647) hU hLx (ro_o hkx (by decide)) rfl
  refine g_getI C K hLx hkx f_1_30 (v := x_408832) hx_408832 dX1_living_8 ?_
  refine g_iconst C (v := (-1)) dX1_living_11 (by decide) ?_
  obtain ⟨x_408833, hx_408833, rx_408833⟩ := ex_any (z0 := x_408832 ^^^ (-1))
  refine g_ixor C (v := x_408833) dX1_living_12 hx_408833 ?_
  obtain ⟨x_408834, hx_408834, rx_408834⟩ := ex_andl (x := x_408828) (y := x_408833) (b := 127) (rx_408828)
  refine g_iand C (v := x_408834) dX1_living_13 hx_408834 ?_
  exact g_zret (ty := .int) (r := x_408834) B K rfl (rfl) ⟨rfl, rfl, rx_408834⟩ dX1_living_14
set_option maxRecDepth 100000 in
set_option maxHeartbeats 8000000 in
theorem c_X11_orderAt {l : Launch} {D : va_G} {cy : Nat → ClassId} {L : List Nat} {κ ln : Nat → Nat} {R : Nat → Nat → Option Nat} {I : Nat → Nat → Int32} {J : Nat → Nat → Int64} {ow : Nat → Nat × Nat} (W9 : ∀ a ∈ L, Shp L κ ln R ow a) {x : Nat} (hLx : x ∈ L) (hkx : κ x = 11) (a0 : Int32) (hU : Uv L κ ow I) : CtI l yX11_orderAt cX11_orderAt 2 (some .int) { frames := 0, cells := 0, slots := 0, locals := 0 } D cy L κ ln R I J [.ref x, .int a0] (fun r I2 J2 => I = I2 ∧ J = J2 ∧ Rg (-2147483648) 2147483647 r) := by
  refine CtI.of (by decide +kernel) (Nat.le_of_ble_eq_true rfl) ?_
  intro p e s m below meth c B K
  have C := B.1
  obtain ⟨b_408855, hb_408855, hb_408855L, hb_408855k⟩ := shp_o (W9 x hLx) hkx 9 4 rfl (by decide)
  obtain ⟨b_408856, hb_408856, hb_408856L, hb_408856k, hb_408856n, hb_408856o⟩ := shp_a (W9 b_408855 hb_408855L) hb_408855k 2 14 7 rfl (by decide)
  refine g_lo (is := [0, 1]) (lo2 := [(0, .ref x), (1, .int a0)]) rfl ?_
  refine g_iload_n C 1 dX11_orderAt_0 rfl rfl ?_
  refine g_if_lt C (tgt := 27) dX11_orderAt_1 (by decide) (fun h_408857 => ?_) (fun h_408857 => ?_)
  · skip
    have r_408858 := lt_l (hi := (-1)) (h_408857) (rg_all a0) rc_0 (by decide)
    refine g_iconst C (v := (-1)) dX11_orderAt_27 (by decide) ?_
    exact g_zret (ty := .int) (r := (-1)) B K rfl (rfl) ⟨rfl, rfl, rg_all _⟩ dX11_orderAt_28
  · skip
    have r_408859 := le_r (nlt h_408857) rc_0 (rg_all a0)
    refine g_iload_n C 1 dX11_orderAt_4 rfl rfl ?_
    refine g_aload_n C 0 dX11_orderAt_5 rfl rfl ?_
    refine g_getR C K hLx hkx f_11_69 hb_408855 dX11_orderAt_6 ?_
    obtain ⟨x_408860, hx_408860, rx_408860⟩ := ex_get (I := I) (a := b_408855) (j := 3) (lo := 0) (hi := 7) hU hb_408855L (ro_o hb_408855k (by decide)) rfl
    refine g_getI C K hb_408855L hb_408855k f_11_269 (v := x_408860) hx_408860 dX11_orderAt_9 ?_
    refine g_icmp_ge C (tgt := 27) dX11_orderAt_12 (by decide) (fun h_408861 => ?_) (fun h_408861 => ?_)
    · skip
      refine g_iconst C (v := (-1)) dX11_orderAt_27 (by decide) ?_
      exact g_zret (ty := .int) (r := (-1)) B K rfl (rfl) ⟨rfl, rfl, rg_all _⟩ dX11_orderAt_28
    · skip
      have r_408862 := lt_l (hi := 6) (nle h_408861) r_408859 rx_408860 (by decide)
      have r_408863 := lt_r (lo := 1) (nle h_408861) r_408859 rx_408860 (by decide)
      refine g_aload_n C 0 dX11_orderAt_15 rfl rfl ?_
      refine g_getR C K hLx hkx f_11_69 hb_408855 dX11_orderAt_16 ?_
      refine g_getR C K hb_408855L hb_408855k f_11_272 hb_408856 dX11_orderAt_19 ?_
      refine g_iload_n C 1 dX11_orderAt_22 rfl rfl ?_
      obtain ⟨x_408864, hx_408864, rx_408864⟩ := ex_get (I := I) (a := b_408856) (j := a0.toNatClampNeg) (lo := (-2147483648)) (hi := 2147483647) hU hb_408856L (ro_a hb_408856k (by decide) hb_408856o hb_408855k rfl) (rfl)
      refine h_iald C K hb_408856L hb_408856k (v := x_408864) (a0.toNatClampNeg) (rfl) (ix_0 r_408862 (by decide)) (ix_lt r_408862 (by decide) hb_408856n (by decide)) hx_408864 dX11_orderAt_23 ?_
      refine g_goto C (tgt := 28) dX11_orderAt_24 (by decide) ?_
      exact g_zret (ty := .int) (r := x_408864) B K rfl (rfl) ⟨rfl, rfl, rx_408864⟩ dX11_orderAt_28
