theorem dX11_accept_0 : decode cX11_accept 0 = .ok (.aload_n 0, 1) := by decide +kernel
theorem dX11_accept_1 : decode cX11_accept 1 = .ok (.getfield 19, 3) := by decide +kernel
theorem dX11_accept_4 : decode cX11_accept 4 = .ok (.iload_n 1, 1) := by decide +kernel
theorem dX11_accept_5 : decode cX11_accept 5 = .ok (.invokevirtual 133, 3) := by decide +kernel
theorem dX11_accept_8 : decode cX11_accept 8 = .ok (.ifCond .ne 5, 3) := by decide +kernel
theorem dX11_accept_11 : decode cX11_accept 11 = .ok (.iconst (-1), 1) := by decide +kernel
theorem dX11_accept_12 : decode cX11_accept 12 = .ok (.ireturn, 1) := by decide +kernel
theorem dX11_accept_13 : decode cX11_accept 13 = .ok (.aload_n 0, 1) := by decide +kernel
theorem dX11_accept_14 : decode cX11_accept 14 = .ok (.getfield 38, 3) := by decide +kernel
theorem dX11_accept_17 : decode cX11_accept 17 = .ok (.aload_n 0, 1) := by decide +kernel
theorem dX11_accept_18 : decode cX11_accept 18 = .ok (.getfield 28, 3) := by decide +kernel
theorem dX11_accept_21 : decode cX11_accept 21 = .ok (.invokevirtual 225, 3) := by decide +kernel
theorem dX11_accept_24 : decode cX11_accept 24 = .ok (.aload_n 0, 1) := by decide +kernel
theorem dX11_accept_25 : decode cX11_accept 25 = .ok (.aload_n 0, 1) := by decide +kernel
theorem dX11_accept_26 : decode cX11_accept 26 = .ok (.getfield 28, 3) := by decide +kernel
theorem dX11_accept_29 : decode cX11_accept 29 = .ok (.iload_n 1, 1) := by decide +kernel
theorem dX11_accept_30 : decode cX11_accept 30 = .ok (.invokevirtual 244, 3) := by decide +kernel
theorem dX11_accept_33 : decode cX11_accept 33 = .ok (.invokevirtual 232, 3) := by decide +kernel
theorem dX11_accept_36 : decode cX11_accept 36 = .ok (.ireturn, 1) := by decide +kernel
theorem dX11_heir_0 : decode cX11_heir 0 = .ok (.aload_n 0, 1) := by decide +kernel
theorem dX11_heir_1 : decode cX11_heir 1 = .ok (.getfield 19, 3) := by decide +kernel
theorem dX11_heir_4 : decode cX11_heir 4 = .ok (.iload_n 1, 1) := by decide +kernel
theorem dX11_heir_5 : decode cX11_heir 5 = .ok (.invokevirtual 133, 3) := by decide +kernel
theorem dX11_heir_8 : decode cX11_heir 8 = .ok (.ifCond .eq 21, 3) := by decide +kernel
theorem dX11_heir_11 : decode cX11_heir 11 = .ok (.aload_n 0, 1) := by decide +kernel
theorem dX11_heir_12 : decode cX11_heir 12 = .ok (.getfield 28, 3) := by decide +kernel
theorem dX11_heir_15 : decode cX11_heir 15 = .ok (.iload_n 1, 1) := by decide +kernel
theorem dX11_heir_16 : decode cX11_heir 16 = .ok (.aload_n 0, 1) := by decide +kernel
theorem dX11_heir_17 : decode cX11_heir 17 = .ok (.getfield 28, 3) := by decide +kernel
theorem dX11_heir_20 : decode cX11_heir 20 = .ok (.getfield 154, 3) := by decide +kernel
theorem dX11_heir_23 : decode cX11_heir 23 = .ok (.invokevirtual 263, 3) := by decide +kernel
theorem dX11_heir_26 : decode cX11_heir 26 = .ok (.goto 4, 3) := by decide +kernel
theorem dX11_heir_29 : decode cX11_heir 29 = .ok (.iconst (-1), 1) := by decide +kernel
theorem dX11_heir_30 : decode cX11_heir 30 = .ok (.ireturn, 1) := by decide +kernel
theorem dX11_keptIfAny_0 : decode cX11_keptIfAny 0 = .ok (.iload_n 1, 1) := by decide +kernel
theorem dX11_keptIfAny_1 : decode cX11_keptIfAny 1 = .ok (.ifCond .le 10, 3) := by decide +kernel
theorem dX11_keptIfAny_4 : decode cX11_keptIfAny 4 = .ok (.aload_n 0, 1) := by decide +kernel
theorem dX11_keptIfAny_5 : decode cX11_keptIfAny 5 = .ok (.getfield 38, 3) := by decide +kernel
theorem dX11_keptIfAny_8 : decode cX11_keptIfAny 8 = .ok (.invokevirtual 260, 3) := by decide +kernel
theorem dX11_keptIfAny_11 : decode cX11_keptIfAny 11 = .ok (.iload_n 1, 1) := by decide +kernel
theorem dX11_keptIfAny_12 : decode cX11_keptIfAny 12 = .ok (.ireturn, 1) := by decide +kernel
theorem dX11_line_0 : decode cX11_line 0 = .ok (.aload_n 0, 1) := by decide +kernel
theorem dX11_line_1 : decode cX11_line 1 = .ok (.getfield 19, 3) := by decide +kernel
theorem dX11_line_4 : decode cX11_line 4 = .ok (.iload_n 1, 1) := by decide +kernel
theorem dX11_line_5 : decode cX11_line 5 = .ok (.invokevirtual 133, 3) := by decide +kernel
theorem dX11_line_8 : decode cX11_line 8 = .ok (.ifCond .eq 13, 3) := by decide +kernel
theorem dX11_line_11 : decode cX11_line 11 = .ok (.iload_n 2, 1) := by decide +kernel
theorem dX11_line_12 : decode cX11_line 12 = .ok (.ifCond .lt 9, 3) := by decide +kernel
theorem dX11_line_15 : decode cX11_line 15 = .ok (.iload_n 2, 1) := by decide +kernel
theorem dX11_line_16 : decode cX11_line 16 = .ok (.bipush 7, 2) := by decide +kernel
theorem dX11_line_18 : decode cX11_line 18 = .ok (.if_icmp .lt 5, 3) := by decide +kernel
theorem dX11_line_21 : decode cX11_line 21 = .ok (.iconst (-1), 1) := by decide +kernel
theorem dX11_line_22 : decode cX11_line 22 = .ok (.ireturn, 1) := by decide +kernel
theorem dX11_line_23 : decode cX11_line 23 = .ok (.aload_n 0, 1) := by decide +kernel
theorem dX11_line_24 : decode cX11_line 24 = .ok (.getfield 28, 3) := by decide +kernel
theorem dX11_line_27 : decode cX11_line 27 = .ok (.getfield 154, 3) := by decide +kernel
theorem dX11_line_30 : decode cX11_line 30 = .ok (.istore_n 3, 1) := by decide +kernel
theorem dX11_line_31 : decode cX11_line 31 = .ok (.aload_n 0, 1) := by decide +kernel
theorem dX11_line_32 : decode cX11_line 32 = .ok (.getfield 28, 3) := by decide +kernel
theorem dX11_line_35 : decode cX11_line 35 = .ok (.iload_n 1, 1) := by decide +kernel
theorem dX11_line_36 : decode cX11_line 36 = .ok (.iload_n 3, 1) := by decide +kernel
theorem dX11_line_37 : decode cX11_line 37 = .ok (.invokevirtual 263, 3) := by decide +kernel
theorem dX11_line_40 : decode cX11_line 40 = .ok (.istore 4, 2) := by decide +kernel
theorem dX11_line_42 : decode cX11_line 42 = .ok (.iconst 0, 1) := by decide +kernel
theorem dX11_line_43 : decode cX11_line 43 = .ok (.istore 5, 2) := by decide +kernel
theorem dX11_line_45 : decode cX11_line 45 = .ok (.iload 5, 2) := by decide +kernel
theorem dX11_line_47 : decode cX11_line 47 = .ok (.iload_n 2, 1) := by decide +kernel
theorem dX11_line_48 : decode cX11_line 48 = .ok (.if_icmp .ge 33, 3) := by decide +kernel
theorem dX11_line_51 : decode cX11_line 51 = .ok (.iload 4, 2) := by decide +kernel
theorem dX11_line_53 : decode cX11_line 53 = .ok (.iconst (-1), 1) := by decide +kernel
theorem dX11_line_54 : decode cX11_line 54 = .ok (.if_icmp .eq 27, 3) := by decide +kernel
theorem dX11_line_57 : decode cX11_line 57 = .ok (.iload_n 3, 1) := by decide +kernel
theorem dX11_line_58 : decode cX11_line 58 = .ok (.iconst 1, 1) := by decide +kernel
theorem dX11_line_59 : decode cX11_line 59 = .ok (.iload 4, 2) := by decide +kernel
theorem dX11_line_61 : decode cX11_line 61 = .ok (.ishl, 1) := by decide +kernel
theorem dX11_line_62 : decode cX11_line 62 = .ok (.ior, 1) := by decide +kernel
theorem dX11_line_63 : decode cX11_line 63 = .ok (.istore_n 3, 1) := by decide +kernel
theorem dX11_line_64 : decode cX11_line 64 = .ok (.aload_n 0, 1) := by decide +kernel
theorem dX11_line_65 : decode cX11_line 65 = .ok (.getfield 28, 3) := by decide +kernel
theorem dX11_line_68 : decode cX11_line 68 = .ok (.iload_n 1, 1) := by decide +kernel
theorem dX11_line_69 : decode cX11_line 69 = .ok (.iload_n 3, 1) := by decide +kernel
theorem dX11_line_70 : decode cX11_line 70 = .ok (.invokevirtual 263, 3) := by decide +kernel
theorem dX11_line_73 : decode cX11_line 73 = .ok (.istore 4, 2) := by decide +kernel
theorem dX11_line_75 : decode cX11_line 75 = .ok (.iinc 5 1, 3) := by decide +kernel
theorem dX11_line_78 : decode cX11_line 78 = .ok (.goto (-33), 3) := by decide +kernel
theorem dX11_line_81 : decode cX11_line 81 = .ok (.iload 4, 2) := by decide +kernel
theorem dX11_line_83 : decode cX11_line 83 = .ok (.ireturn, 1) := by decide +kernel
theorem dX11_orderAt_0 : decode cX11_orderAt 0 = .ok (.iload_n 1, 1) := by decide +kernel
theorem dX11_orderAt_1 : decode cX11_orderAt 1 = .ok (.ifCond .lt 26, 3) := by decide +kernel
theorem dX11_orderAt_4 : decode cX11_orderAt 4 = .ok (.iload_n 1, 1) := by decide +kernel
theorem dX11_orderAt_5 : decode cX11_orderAt 5 = .ok (.aload_n 0, 1) := by decide +kernel
theorem dX11_orderAt_6 : decode cX11_orderAt 6 = .ok (.getfield 69, 3) := by decide +kernel
theorem dX11_orderAt_9 : decode cX11_orderAt 9 = .ok (.getfield 269, 3) := by decide +kernel
theorem dX11_orderAt_12 : decode cX11_orderAt 12 = .ok (.if_icmp .ge 15, 3) := by decide +kernel
theorem dX11_orderAt_15 : decode cX11_orderAt 15 = .ok (.aload_n 0, 1) := by decide +kernel
theorem dX11_orderAt_16 : decode cX11_orderAt 16 = .ok (.getfield 69, 3) := by decide +kernel
theorem dX11_orderAt_19 : decode cX11_orderAt 19 = .ok (.getfield 272, 3) := by decide +kernel
theorem dX11_orderAt_22 : decode cX11_orderAt 22 = .ok (.iload_n 1, 1) := by decide +kernel
theorem dX11_orderAt_23 : decode cX11_orderAt 23 = .ok (.iaload, 1) := by decide +kernel
theorem dX11_orderAt_24 : decode cX11_orderAt 24 = .ok (.goto 4, 3) := by decide +kernel
theorem dX11_orderAt_27 : decode cX11_orderAt 27 = .ok (.iconst (-1), 1) := by decide +kernel
theorem dX11_orderAt_28 : decode cX11_orderAt 28 = .ok (.ireturn, 1) := by decide +kernel
theorem dX11_refuse_0 : decode cX11_refuse 0 = .ok (.aload_n 0, 1) := by decide +kernel
theorem dX11_refuse_1 : decode cX11_refuse 1 = .ok (.getfield 19, 3) := by decide +kernel
theorem dX11_refuse_4 : decode cX11_refuse 4 = .ok (.iload_n 1, 1) := by decide +kernel
theorem dX11_refuse_5 : decode cX11_refuse 5 = .ok (.invokevirtual 133, 3) := by decide +kernel
theorem dX11_refuse_8 : decode cX11_refuse 8 = .ok (.ifCond .ne 5, 3) := by decide +kernel
theorem dX11_refuse_11 : decode cX11_refuse 11 = .ok (.iconst (-1), 1) := by decide +kernel
theorem dX11_refuse_12 : decode cX11_refuse 12 = .ok (.ireturn, 1) := by decide +kernel
theorem dX11_refuse_13 : decode cX11_refuse 13 = .ok (.aload_n 0, 1) := by decide +kernel
theorem dX11_refuse_14 : decode cX11_refuse 14 = .ok (.getfield 38, 3) := by decide +kernel
theorem dX11_refuse_17 : decode cX11_refuse 17 = .ok (.aload_n 0, 1) := by decide +kernel
theorem dX11_refuse_18 : decode cX11_refuse 18 = .ok (.getfield 28, 3) := by decide +kernel
theorem dX11_refuse_21 : decode cX11_refuse 21 = .ok (.invokevirtual 225, 3) := by decide +kernel
theorem dX11_refuse_24 : decode cX11_refuse 24 = .ok (.aload_n 0, 1) := by decide +kernel
theorem dX11_refuse_25 : decode cX11_refuse 25 = .ok (.aload_n 0, 1) := by decide +kernel
theorem dX11_refuse_26 : decode cX11_refuse 26 = .ok (.getfield 28, 3) := by decide +kernel
theorem dX11_refuse_29 : decode cX11_refuse 29 = .ok (.iload_n 1, 1) := by decide +kernel
theorem dX11_refuse_30 : decode cX11_refuse 30 = .ok (.invokevirtual 241, 3) := by decide +kernel
theorem dX11_refuse_33 : decode cX11_refuse 33 = .ok (.invokevirtual 232, 3) := by decide +kernel
theorem dX11_refuse_36 : decode cX11_refuse 36 = .ok (.ireturn, 1) := by decide +kernel
theorem dX11_undo_0 : decode cX11_undo 0 = .ok (.aload_n 0, 1) := by decide +kernel
theorem dX11_undo_1 : decode cX11_undo 1 = .ok (.getfield 38, 3) := by decide +kernel
theorem dX11_undo_4 : decode cX11_undo 4 = .ok (.aload_n 0, 1) := by decide +kernel
theorem dX11_undo_5 : decode cX11_undo 5 = .ok (.getfield 28, 3) := by decide +kernel
theorem dX11_undo_8 : decode cX11_undo 8 = .ok (.invokevirtual 256, 3) := by decide +kernel
theorem dX11_undo_11 : decode cX11_undo 11 = .ok (.ireturn, 1) := by decide +kernel
theorem dX1_firstBehind_0 : decode cX1_firstBehind 0 = .ok (.iload_n 1, 1) := by decide +kernel
theorem dX1_firstBehind_1 : decode cX1_firstBehind 1 = .ok (.istore_n 3, 1) := by decide +kernel
theorem dX1_firstBehind_2 : decode cX1_firstBehind 2 = .ok (.iconst 1, 1) := by decide +kernel
theorem dX1_firstBehind_3 : decode cX1_firstBehind 3 = .ok (.istore 4, 2) := by decide +kernel
theorem dX1_firstBehind_5 : decode cX1_firstBehind 5 = .ok (.iload 4, 2) := by decide +kernel
theorem dX1_firstBehind_7 : decode cX1_firstBehind 7 = .ok (.aload_n 0, 1) := by decide +kernel
theorem dX1_firstBehind_8 : decode cX1_firstBehind 8 = .ok (.getfield 52, 3) := by decide +kernel
theorem dX1_firstBehind_11 : decode cX1_firstBehind 11 = .ok (.getfield 68, 3) := by decide +kernel
theorem dX1_firstBehind_14 : decode cX1_firstBehind 14 = .ok (.if_icmp .ge 40, 3) := by decide +kernel
theorem dX1_firstBehind_17 : decode cX1_firstBehind 17 = .ok (.iload_n 3, 1) := by decide +kernel
theorem dX1_firstBehind_18 : decode cX1_firstBehind 18 = .ok (.iconst 1, 1) := by decide +kernel
theorem dX1_firstBehind_19 : decode cX1_firstBehind 19 = .ok (.iadd, 1) := by decide +kernel
theorem dX1_firstBehind_20 : decode cX1_firstBehind 20 = .ok (.aload_n 0, 1) := by decide +kernel
theorem dX1_firstBehind_21 : decode cX1_firstBehind 21 = .ok (.getfield 52, 3) := by decide +kernel
theorem dX1_firstBehind_24 : decode cX1_firstBehind 24 = .ok (.getfield 68, 3) := by decide +kernel
theorem dX1_firstBehind_27 : decode cX1_firstBehind 27 = .ok (.if_icmp .ge 9, 3) := by decide +kernel
theorem dX1_firstBehind_30 : decode cX1_firstBehind 30 = .ok (.iload_n 3, 1) := by decide +kernel
theorem dX1_firstBehind_31 : decode cX1_firstBehind 31 = .ok (.iconst 1, 1) := by decide +kernel
theorem dX1_firstBehind_32 : decode cX1_firstBehind 32 = .ok (.iadd, 1) := by decide +kernel
theorem dX1_firstBehind_33 : decode cX1_firstBehind 33 = .ok (.goto 4, 3) := by decide +kernel
theorem dX1_firstBehind_36 : decode cX1_firstBehind 36 = .ok (.iconst 0, 1) := by decide +kernel
theorem dX1_firstBehind_37 : decode cX1_firstBehind 37 = .ok (.istore_n 3, 1) := by decide +kernel
theorem dX1_firstBehind_38 : decode cX1_firstBehind 38 = .ok (.iload_n 2, 1) := by decide +kernel
theorem dX1_firstBehind_39 : decode cX1_firstBehind 39 = .ok (.iload_n 3, 1) := by decide +kernel
theorem dX1_firstBehind_40 : decode cX1_firstBehind 40 = .ok (.ishr, 1) := by decide +kernel
theorem dX1_firstBehind_41 : decode cX1_firstBehind 41 = .ok (.iconst 1, 1) := by decide +kernel
theorem dX1_firstBehind_42 : decode cX1_firstBehind 42 = .ok (.iand, 1) := by decide +kernel
theorem dX1_firstBehind_43 : decode cX1_firstBehind 43 = .ok (.ifCond .eq 5, 3) := by decide +kernel
theorem dX1_firstBehind_46 : decode cX1_firstBehind 46 = .ok (.iload_n 3, 1) := by decide +kernel
theorem dX1_firstBehind_47 : decode cX1_firstBehind 47 = .ok (.ireturn, 1) := by decide +kernel
theorem dX1_firstBehind_48 : decode cX1_firstBehind 48 = .ok (.iinc 4 1, 3) := by decide +kernel
theorem dX1_firstBehind_51 : decode cX1_firstBehind 51 = .ok (.goto (-46), 3) := by decide +kernel
theorem dX1_firstBehind_54 : decode cX1_firstBehind 54 = .ok (.iconst (-1), 1) := by decide +kernel
theorem dX1_firstBehind_55 : decode cX1_firstBehind 55 = .ok (.ireturn, 1) := by decide +kernel
theorem dX1_heirOf_0 : decode cX1_heirOf 0 = .ok (.aload_n 0, 1) := by decide +kernel
theorem dX1_heirOf_1 : decode cX1_heirOf 1 = .ok (.getfield 52, 3) := by decide +kernel
theorem dX1_heirOf_4 : decode cX1_heirOf 4 = .ok (.invokevirtual 62, 3) := by decide +kernel
theorem dX1_heirOf_7 : decode cX1_heirOf 7 = .ok (.aload_n 0, 1) := by decide +kernel
theorem dX1_heirOf_8 : decode cX1_heirOf 8 = .ok (.getfield 30, 3) := by decide +kernel
theorem dX1_heirOf_11 : decode cX1_heirOf 11 = .ok (.iconst (-1), 1) := by decide +kernel
theorem dX1_heirOf_12 : decode cX1_heirOf 12 = .ok (.ixor, 1) := by decide +kernel
theorem dX1_heirOf_13 : decode cX1_heirOf 13 = .ok (.iand, 1) := by decide +kernel
theorem dX1_heirOf_14 : decode cX1_heirOf 14 = .ok (.iload_n 2, 1) := by decide +kernel
theorem dX1_heirOf_15 : decode cX1_heirOf 15 = .ok (.iconst (-1), 1) := by decide +kernel
theorem dX1_heirOf_16 : decode cX1_heirOf 16 = .ok (.ixor, 1) := by decide +kernel
theorem dX1_heirOf_17 : decode cX1_heirOf 17 = .ok (.iand, 1) := by decide +kernel
theorem dX1_heirOf_18 : decode cX1_heirOf 18 = .ok (.iconst 1, 1) := by decide +kernel
theorem dX1_heirOf_19 : decode cX1_heirOf 19 = .ok (.iload_n 1, 1) := by decide +kernel
theorem dX1_heirOf_20 : decode cX1_heirOf 20 = .ok (.ishl, 1) := by decide +kernel
theorem dX1_heirOf_21 : decode cX1_heirOf 21 = .ok (.iconst (-1), 1) := by decide +kernel
theorem dX1_heirOf_22 : decode cX1_heirOf 22 = .ok (.ixor, 1) := by decide +kernel
theorem dX1_heirOf_23 : decode cX1_heirOf 23 = .ok (.iand, 1) := by decide +kernel
theorem dX1_heirOf_24 : decode cX1_heirOf 24 = .ok (.istore_n 3, 1) := by decide +kernel
theorem dX1_heirOf_25 : decode cX1_heirOf 25 = .ok (.aload_n 0, 1) := by decide +kernel
theorem dX1_heirOf_26 : decode cX1_heirOf 26 = .ok (.getfield 52, 3) := by decide +kernel
theorem dX1_heirOf_29 : decode cX1_heirOf 29 = .ok (.getfield 78, 3) := by decide +kernel
theorem dX1_heirOf_32 : decode cX1_heirOf 32 = .ok (.iconst 2, 1) := by decide +kernel
theorem dX1_heirOf_33 : decode cX1_heirOf 33 = .ok (.if_icmp .ne 9, 3) := by decide +kernel
theorem dX1_heirOf_36 : decode cX1_heirOf 36 = .ok (.aload_n 0, 1) := by decide +kernel
theorem dX1_heirOf_37 : decode cX1_heirOf 37 = .ok (.iload_n 3, 1) := by decide +kernel
theorem dX1_heirOf_38 : decode cX1_heirOf 38 = .ok (.invokevirtual 81, 3) := by decide +kernel
theorem dX1_heirOf_41 : decode cX1_heirOf 41 = .ok (.ireturn, 1) := by decide +kernel
theorem dX1_heirOf_42 : decode cX1_heirOf 42 = .ok (.aload_n 0, 1) := by decide +kernel
theorem dX1_heirOf_43 : decode cX1_heirOf 43 = .ok (.getfield 52, 3) := by decide +kernel
theorem dX1_heirOf_46 : decode cX1_heirOf 46 = .ok (.getfield 78, 3) := by decide +kernel
theorem dX1_heirOf_49 : decode cX1_heirOf 49 = .ok (.iconst 1, 1) := by decide +kernel
theorem dX1_heirOf_50 : decode cX1_heirOf 50 = .ok (.if_icmp .ne 16, 3) := by decide +kernel
theorem dX1_heirOf_53 : decode cX1_heirOf 53 = .ok (.iload_n 3, 1) := by decide +kernel
theorem dX1_heirOf_54 : decode cX1_heirOf 54 = .ok (.aload_n 0, 1) := by decide +kernel
theorem dX1_heirOf_55 : decode cX1_heirOf 55 = .ok (.getfield 52, 3) := by decide +kernel
theorem dX1_heirOf_58 : decode cX1_heirOf 58 = .ok (.iload_n 1, 1) := by decide +kernel
theorem dX1_heirOf_59 : decode cX1_heirOf 59 = .ok (.invokevirtual 85, 3) := by decide +kernel
theorem dX1_heirOf_62 : decode cX1_heirOf 62 = .ok (.iand, 1) := by decide +kernel
theorem dX1_heirOf_63 : decode cX1_heirOf 63 = .ok (.goto 4, 3) := by decide +kernel
theorem dX1_heirOf_66 : decode cX1_heirOf 66 = .ok (.iconst 0, 1) := by decide +kernel
theorem dX1_heirOf_67 : decode cX1_heirOf 67 = .ok (.istore 4, 2) := by decide +kernel
theorem dX1_heirOf_69 : decode cX1_heirOf 69 = .ok (.aload_n 0, 1) := by decide +kernel
theorem dX1_heirOf_70 : decode cX1_heirOf 70 = .ok (.iload_n 1, 1) := by decide +kernel
theorem dX1_heirOf_71 : decode cX1_heirOf 71 = .ok (.iload 4, 2) := by decide +kernel
theorem dX1_heirOf_73 : decode cX1_heirOf 73 = .ok (.ifCond .eq 8, 3) := by decide +kernel
theorem dX1_heirOf_76 : decode cX1_heirOf 76 = .ok (.iload 4, 2) := by decide +kernel
theorem dX1_heirOf_78 : decode cX1_heirOf 78 = .ok (.goto 4, 3) := by decide +kernel
theorem dX1_heirOf_81 : decode cX1_heirOf 81 = .ok (.iload_n 3, 1) := by decide +kernel
theorem dX1_heirOf_82 : decode cX1_heirOf 82 = .ok (.invokevirtual 88, 3) := by decide +kernel
theorem dX1_heirOf_85 : decode cX1_heirOf 85 = .ok (.ireturn, 1) := by decide +kernel
theorem dX1_leastFed_0 : decode cX1_leastFed 0 = .ok (.iconst (-1), 1) := by decide +kernel
theorem dX1_leastFed_1 : decode cX1_leastFed 1 = .ok (.istore_n 2, 1) := by decide +kernel
theorem dX1_leastFed_2 : decode cX1_leastFed 2 = .ok (.iconst 0, 1) := by decide +kernel
theorem dX1_leastFed_3 : decode cX1_leastFed 3 = .ok (.istore_n 3, 1) := by decide +kernel
theorem dX1_leastFed_4 : decode cX1_leastFed 4 = .ok (.iload_n 3, 1) := by decide +kernel
theorem dX1_leastFed_5 : decode cX1_leastFed 5 = .ok (.aload_n 0, 1) := by decide +kernel
theorem dX1_leastFed_6 : decode cX1_leastFed 6 = .ok (.getfield 52, 3) := by decide +kernel
theorem dX1_leastFed_9 : decode cX1_leastFed 9 = .ok (.getfield 68, 3) := by decide +kernel
theorem dX1_leastFed_12 : decode cX1_leastFed 12 = .ok (.if_icmp .ge 39, 3) := by decide +kernel
theorem dX1_leastFed_15 : decode cX1_leastFed 15 = .ok (.iload_n 1, 1) := by decide +kernel
theorem dX1_leastFed_16 : decode cX1_leastFed 16 = .ok (.iload_n 3, 1) := by decide +kernel
theorem dX1_leastFed_17 : decode cX1_leastFed 17 = .ok (.ishr, 1) := by decide +kernel
theorem dX1_leastFed_18 : decode cX1_leastFed 18 = .ok (.iconst 1, 1) := by decide +kernel
theorem dX1_leastFed_19 : decode cX1_leastFed 19 = .ok (.iand, 1) := by decide +kernel
theorem dX1_leastFed_20 : decode cX1_leastFed 20 = .ok (.ifCond .eq 25, 3) := by decide +kernel
theorem dX1_leastFed_23 : decode cX1_leastFed 23 = .ok (.iload_n 2, 1) := by decide +kernel
theorem dX1_leastFed_24 : decode cX1_leastFed 24 = .ok (.iconst (-1), 1) := by decide +kernel
theorem dX1_leastFed_25 : decode cX1_leastFed 25 = .ok (.if_icmp .eq 18, 3) := by decide +kernel
theorem dX1_leastFed_28 : decode cX1_leastFed 28 = .ok (.aload_n 0, 1) := by decide +kernel
theorem dX1_leastFed_29 : decode cX1_leastFed 29 = .ok (.getfield 21, 3) := by decide +kernel
theorem dX1_leastFed_32 : decode cX1_leastFed 32 = .ok (.iload_n 3, 1) := by decide +kernel
theorem dX1_leastFed_33 : decode cX1_leastFed 33 = .ok (.iaload, 1) := by decide +kernel
theorem dX1_leastFed_34 : decode cX1_leastFed 34 = .ok (.aload_n 0, 1) := by decide +kernel
theorem dX1_leastFed_35 : decode cX1_leastFed 35 = .ok (.getfield 21, 3) := by decide +kernel
theorem dX1_leastFed_38 : decode cX1_leastFed 38 = .ok (.iload_n 2, 1) := by decide +kernel
theorem dX1_leastFed_39 : decode cX1_leastFed 39 = .ok (.iaload, 1) := by decide +kernel
theorem dX1_leastFed_40 : decode cX1_leastFed 40 = .ok (.if_icmp .ge 5, 3) := by decide +kernel
theorem dX1_leastFed_43 : decode cX1_leastFed 43 = .ok (.iload_n 3, 1) := by decide +kernel
theorem dX1_leastFed_44 : decode cX1_leastFed 44 = .ok (.istore_n 2, 1) := by decide +kernel
theorem dX1_leastFed_45 : decode cX1_leastFed 45 = .ok (.iinc 3 1, 3) := by decide +kernel
theorem dX1_leastFed_48 : decode cX1_leastFed 48 = .ok (.goto (-44), 3) := by decide +kernel
theorem dX1_leastFed_51 : decode cX1_leastFed 51 = .ok (.iload_n 2, 1) := by decide +kernel
theorem dX1_leastFed_52 : decode cX1_leastFed 52 = .ok (.ireturn, 1) := by decide +kernel
theorem dX1_living_0 : decode cX1_living 0 = .ok (.aload_n 0, 1) := by decide +kernel
theorem dX1_living_1 : decode cX1_living 1 = .ok (.getfield 52, 3) := by decide +kernel
theorem dX1_living_4 : decode cX1_living 4 = .ok (.invokevirtual 62, 3) := by decide +kernel
theorem dX1_living_7 : decode cX1_living 7 = .ok (.aload_n 0, 1) := by decide +kernel
theorem dX1_living_8 : decode cX1_living 8 = .ok (.getfield 30, 3) := by decide +kernel
theorem dX1_living_11 : decode cX1_living 11 = .ok (.iconst (-1), 1) := by decide +kernel
theorem dX1_living_12 : decode cX1_living 12 = .ok (.ixor, 1) := by decide +kernel
theorem dX1_living_13 : decode cX1_living 13 = .ok (.iand, 1) := by decide +kernel
theorem dX1_living_14 : decode cX1_living 14 = .ok (.ireturn, 1) := by decide +kernel
theorem dX1_tryToAccept_0 : decode cX1_tryToAccept 0 = .ok (.aload_n 0, 1) := by decide +kernel
theorem dX1_tryToAccept_1 : decode cX1_tryToAccept 1 = .ok (.iload_n 1, 1) := by decide +kernel
theorem dX1_tryToAccept_2 : decode cX1_tryToAccept 2 = .ok (.invokevirtual 115, 3) := by decide +kernel
theorem dX1_tryToAccept_5 : decode cX1_tryToAccept 5 = .ok (.ifCond .ne 5, 3) := by decide +kernel
theorem dX1_tryToAccept_8 : decode cX1_tryToAccept 8 = .ok (.iconst 1, 1) := by decide +kernel
theorem dX1_tryToAccept_9 : decode cX1_tryToAccept 9 = .ok (.ireturn, 1) := by decide +kernel
theorem dX1_tryToAccept_10 : decode cX1_tryToAccept 10 = .ok (.aload_n 0, 1) := by decide +kernel
theorem dX1_tryToAccept_11 : decode cX1_tryToAccept 11 = .ok (.getfield 34, 3) := by decide +kernel
theorem dX1_tryToAccept_14 : decode cX1_tryToAccept 14 = .ok (.iload_n 1, 1) := by decide +kernel
theorem dX1_tryToAccept_15 : decode cX1_tryToAccept 15 = .ok (.ishr, 1) := by decide +kernel
theorem dX1_tryToAccept_16 : decode cX1_tryToAccept 16 = .ok (.iconst 1, 1) := by decide +kernel
theorem dX1_tryToAccept_17 : decode cX1_tryToAccept 17 = .ok (.iand, 1) := by decide +kernel
theorem dX1_tryToAccept_18 : decode cX1_tryToAccept 18 = .ok (.ifCond .ne 5, 3) := by decide +kernel
theorem dX1_tryToAccept_21 : decode cX1_tryToAccept 21 = .ok (.iconst 2, 1) := by decide +kernel
theorem dX1_tryToAccept_22 : decode cX1_tryToAccept 22 = .ok (.ireturn, 1) := by decide +kernel
theorem dX1_tryToAccept_23 : decode cX1_tryToAccept 23 = .ok (.aload_n 0, 1) := by decide +kernel
theorem dX1_tryToAccept_24 : decode cX1_tryToAccept 24 = .ok (.dup, 1) := by decide +kernel
theorem dX1_tryToAccept_25 : decode cX1_tryToAccept 25 = .ok (.getfield 34, 3) := by decide +kernel
theorem dX1_tryToAccept_28 : decode cX1_tryToAccept 28 = .ok (.iconst 1, 1) := by decide +kernel
theorem dX1_tryToAccept_29 : decode cX1_tryToAccept 29 = .ok (.iload_n 1, 1) := by decide +kernel
theorem dX1_tryToAccept_30 : decode cX1_tryToAccept 30 = .ok (.ishl, 1) := by decide +kernel
theorem dX1_tryToAccept_31 : decode cX1_tryToAccept 31 = .ok (.iconst (-1), 1) := by decide +kernel
theorem dX1_tryToAccept_32 : decode cX1_tryToAccept 32 = .ok (.ixor, 1) := by decide +kernel
theorem dX1_tryToAccept_33 : decode cX1_tryToAccept 33 = .ok (.iand, 1) := by decide +kernel
theorem dX1_tryToAccept_34 : decode cX1_tryToAccept 34 = .ok (.putfield 34, 3) := by decide +kernel
theorem dX1_tryToAccept_37 : decode cX1_tryToAccept 37 = .ok (.iconst 0, 1) := by decide +kernel
theorem dX1_tryToAccept_38 : decode cX1_tryToAccept 38 = .ok (.ireturn, 1) := by decide +kernel
theorem dX5_takeBack_0 : decode cX5_takeBack 0 = .ok (.aload_n 0, 1) := by decide +kernel
theorem dX5_takeBack_1 : decode cX5_takeBack 1 = .ok (.getfield 17, 3) := by decide +kernel
theorem dX5_takeBack_4 : decode cX5_takeBack 4 = .ok (.ifCond .ne 5, 3) := by decide +kernel
theorem dX5_takeBack_7 : decode cX5_takeBack 7 = .ok (.iconst (-1), 1) := by decide +kernel
theorem dX5_takeBack_8 : decode cX5_takeBack 8 = .ok (.ireturn, 1) := by decide +kernel
theorem dX5_takeBack_9 : decode cX5_takeBack 9 = .ok (.aload_n 0, 1) := by decide +kernel
theorem dX5_takeBack_10 : decode cX5_takeBack 10 = .ok (.dup, 1) := by decide +kernel
theorem dX5_takeBack_11 : decode cX5_takeBack 11 = .ok (.getfield 17, 3) := by decide +kernel
theorem dX5_takeBack_14 : decode cX5_takeBack 14 = .ok (.iconst 1, 1) := by decide +kernel
theorem dX5_takeBack_15 : decode cX5_takeBack 15 = .ok (.isub, 1) := by decide +kernel
theorem dX5_takeBack_16 : decode cX5_takeBack 16 = .ok (.putfield 17, 3) := by decide +kernel
theorem dX5_takeBack_19 : decode cX5_takeBack 19 = .ok (.aload_n 0, 1) := by decide +kernel
theorem dX5_takeBack_20 : decode cX5_takeBack 20 = .ok (.aload_n 0, 1) := by decide +kernel
theorem dX5_takeBack_21 : decode cX5_takeBack 21 = .ok (.getfield 21, 3) := by decide +kernel
theorem dX5_takeBack_24 : decode cX5_takeBack 24 = .ok (.ifCond .le 12, 3) := by decide +kernel
theorem dX5_takeBack_27 : decode cX5_takeBack 27 = .ok (.aload_n 0, 1) := by decide +kernel
theorem dX5_takeBack_28 : decode cX5_takeBack 28 = .ok (.getfield 21, 3) := by decide +kernel
theorem dX5_takeBack_31 : decode cX5_takeBack 31 = .ok (.iconst 1, 1) := by decide +kernel
theorem dX5_takeBack_32 : decode cX5_takeBack 32 = .ok (.isub, 1) := by decide +kernel
theorem dX5_takeBack_33 : decode cX5_takeBack 33 = .ok (.goto 5, 3) := by decide +kernel
theorem dX5_takeBack_36 : decode cX5_takeBack 36 = .ok (.bipush 8, 2) := by decide +kernel
theorem dX5_takeBack_38 : decode cX5_takeBack 38 = .ok (.putfield 21, 3) := by decide +kernel
theorem dX5_takeBack_41 : decode cX5_takeBack 41 = .ok (.aload_n 1, 1) := by decide +kernel
theorem dX5_takeBack_42 : decode cX5_takeBack 42 = .ok (.aload_n 0, 1) := by decide +kernel
theorem dX5_takeBack_43 : decode cX5_takeBack 43 = .ok (.getfield 13, 3) := by decide +kernel
theorem dX5_takeBack_46 : decode cX5_takeBack 46 = .ok (.aload_n 0, 1) := by decide +kernel
theorem dX5_takeBack_47 : decode cX5_takeBack 47 = .ok (.getfield 21, 3) := by decide +kernel
theorem dX5_takeBack_50 : decode cX5_takeBack 50 = .ok (.aaload, 1) := by decide +kernel
theorem dX5_takeBack_51 : decode cX5_takeBack 51 = .ok (.invokevirtual 27, 3) := by decide +kernel
theorem dX5_takeBack_54 : decode cX5_takeBack 54 = .ok (.aload_n 0, 1) := by decide +kernel
theorem dX5_takeBack_55 : decode cX5_takeBack 55 = .ok (.getfield 17, 3) := by decide +kernel
theorem dX5_takeBack_58 : decode cX5_takeBack 58 = .ok (.ireturn, 1) := by decide +kernel
theorem dX8_childrenOf_0 : decode cX8_childrenOf 0 = .ok (.iconst 0, 1) := by decide +kernel
theorem dX8_childrenOf_1 : decode cX8_childrenOf 1 = .ok (.istore_n 2, 1) := by decide +kernel
theorem dX8_childrenOf_2 : decode cX8_childrenOf 2 = .ok (.iconst 0, 1) := by decide +kernel
theorem dX8_childrenOf_3 : decode cX8_childrenOf 3 = .ok (.istore_n 3, 1) := by decide +kernel
theorem dX8_childrenOf_4 : decode cX8_childrenOf 4 = .ok (.iload_n 3, 1) := by decide +kernel
theorem dX8_childrenOf_5 : decode cX8_childrenOf 5 = .ok (.aload_n 0, 1) := by decide +kernel
theorem dX8_childrenOf_6 : decode cX8_childrenOf 6 = .ok (.getfield 28, 3) := by decide +kernel
theorem dX8_childrenOf_9 : decode cX8_childrenOf 9 = .ok (.if_icmp .ge 25, 3) := by decide +kernel
theorem dX8_childrenOf_12 : decode cX8_childrenOf 12 = .ok (.aload_n 0, 1) := by decide +kernel
theorem dX8_childrenOf_13 : decode cX8_childrenOf 13 = .ok (.getfield 19, 3) := by decide +kernel
theorem dX8_childrenOf_16 : decode cX8_childrenOf 16 = .ok (.iload_n 3, 1) := by decide +kernel
theorem dX8_childrenOf_17 : decode cX8_childrenOf 17 = .ok (.iaload, 1) := by decide +kernel
theorem dX8_childrenOf_18 : decode cX8_childrenOf 18 = .ok (.iload_n 1, 1) := by decide +kernel
theorem dX8_childrenOf_19 : decode cX8_childrenOf 19 = .ok (.if_icmp .ne 9, 3) := by decide +kernel
theorem dX8_childrenOf_22 : decode cX8_childrenOf 22 = .ok (.iload_n 2, 1) := by decide +kernel
theorem dX8_childrenOf_23 : decode cX8_childrenOf 23 = .ok (.iconst 1, 1) := by decide +kernel
theorem dX8_childrenOf_24 : decode cX8_childrenOf 24 = .ok (.iload_n 3, 1) := by decide +kernel
theorem dX8_childrenOf_25 : decode cX8_childrenOf 25 = .ok (.ishl, 1) := by decide +kernel
theorem dX8_childrenOf_26 : decode cX8_childrenOf 26 = .ok (.ior, 1) := by decide +kernel
theorem dX8_childrenOf_27 : decode cX8_childrenOf 27 = .ok (.istore_n 2, 1) := by decide +kernel
theorem dX8_childrenOf_28 : decode cX8_childrenOf 28 = .ok (.iinc 3 1, 3) := by decide +kernel
theorem dX8_childrenOf_31 : decode cX8_childrenOf 31 = .ok (.goto (-27), 3) := by decide +kernel
theorem dX8_childrenOf_34 : decode cX8_childrenOf 34 = .ok (.iload_n 2, 1) := by decide +kernel
theorem dX8_childrenOf_35 : decode cX8_childrenOf 35 = .ok (.ireturn, 1) := by decide +kernel
set_option maxRecDepth 100000 in
set_option maxHeartbeats 8000000 in
theorem c_X11_refuse {l : Launch} {D : va_G} {cy : Nat → ClassId} {L : List Nat} {κ ln : Nat → Nat} {R : Nat → Nat → Option Nat} {I : Nat → Nat → Int32} {J : Nat → Nat → Int64} {ow : Nat → Nat × Nat} (W9 : ∀ a ∈ L, Shp L κ ln R ow a) {x : Nat} (hLx : x ∈ L) (hkx : κ x = 11) (a0 : Int32) (hU : Uv L κ ow I) : CtI l yX11_refuse cX11_refuse 2 (some .int) { frames := 3, cells := 0, slots := 0, locals := 102 } D cy L κ ln R I J [.ref x, .int a0] (fun r I2 J2 => Uv L κ ow I2 ∧ Fq L κ ow [107, 108, 109, 110, 111, 112, 501, 502, 16100, 16200, 16300, 16400, 16500, 16600] I I2 ∧ Fq L κ ow [] J J2 ∧ Rg (-1) 3 r) := by
  refine CtI.of (by decide +kernel) (Nat.le_of_ble_eq_true rfl) ?_
  intro p e s m below meth c B K
  have C := B.1
  have hF : Fq L κ ow [107, 108, 109, 110, 111, 112, 501, 502, 16100, 16200, 16300, 16400, 16500, 16600] I I := fq_rf
  have hG : Fq L κ ow [] J J := fq_rf
  obtain ⟨b_407658, hb_407658, hb_407658L, hb_407658k⟩ := shp_o (W9 x hLx) hkx 1 8 rfl (by decide)
  obtain ⟨b_407659, hb_407659, hb_407659L, hb_407659k⟩ := shp_o (W9 x hLx) hkx 2 1 rfl (by decide)
  obtain ⟨b_407660, hb_407660, hb_407660L, hb_407660k⟩ := shp_o (W9 x hLx) hkx 4 5 rfl (by decide)
  refine g_lo (is := [0, 1]) (lo2 := [(0, .ref x), (1, .int a0)]) rfl ?_
  refine g_aload_n C 0 dX11_refuse_0 rfl rfl ?_
  refine g_getR C K hLx hkx f_11_19 hb_407658 dX11_refuse_1 ?_
  refine g_iload_n C 1 dX11_refuse_4 rfl rfl ?_
  refine g_callVI C K (c_X8_hasPerson W9 hb_407658L hb_407658k a0  hU) hb_407658L hb_407658k (by decide) rfl v_11_133 rfl ⟨rfl, rfl⟩ ⟨Nat.le_of_ble_eq_true rfl, Nat.le_of_ble_eq_true rfl⟩ (Nat.le_of_ble_eq_true rfl) ⟨Nat.le_of_ble_eq_true rfl, Nat.le_of_ble_eq_true rfl⟩ dX11_refuse_5 rfl (st := []) (fun x_407661 I_407662 J_407663 h_407664 => ?_)
  obtain ⟨rfl, rfl, rx_407661, ex_407661⟩ := h_407664
  refine g_if_ne C (tgt := 13) dX11_refuse_8 (by decide) (fun h_407665 => ?_) (fun h_407665 => ?_)
  · skip
    have n_407666 : ¬ x_407661 = 0 := h_407665
    have r_407667 := ne_lo (lo := 1) n_407666 rx_407661 rc_0 rfl (by decide)
    have r_407668 := rg_i (rg_all a0) ((ex_407661) (rg_nz r_407667 (by decide))) (lo := 0) (hi := 6) (by decide) (by decide)
    refine g_aload_n C 0 dX11_refuse_13 rfl rfl ?_
    refine g_getR C K hLx hkx f_11_38 hb_407660 dX11_refuse_14 ?_
    refine g_aload_n C 0 dX11_refuse_17 rfl rfl ?_
    refine g_getR C K hLx hkx f_11_28 hb_407659 dX11_refuse_18 ?_
    refine g_callVV C K (c_X5_note W9 hb_407660L hb_407660k hb_407659L hb_407659k  hU) hb_407660L hb_407660k (by decide) rfl v_11_225 rfl ⟨rfl, rfl⟩ ⟨Nat.le_of_ble_eq_true rfl, Nat.le_of_ble_eq_true rfl⟩ (Nat.le_of_ble_eq_true rfl) ⟨Nat.le_of_ble_eq_true rfl, Nat.le_of_ble_eq_true rfl⟩ dX11_refuse_21 rfl (st := []) (fun I_407670 J_407671 h_407672 => ?_)
    obtain ⟨hUI_407670, hFI_407670, hGJ_407671⟩ := h_407672
    have hF_407673 := fq_tr hF hFI_407670 (by decide)
    have hG_407674 := fq_tr hG hGJ_407671 (by decide)
    refine g_aload_n C 0 dX11_refuse_24 rfl rfl ?_
    refine g_aload_n C 0 dX11_refuse_25 rfl rfl ?_
    refine g_getR C K hLx hkx f_11_28 hb_407659 dX11_refuse_26 ?_
    refine g_iload_n C 1 dX11_refuse_29 rfl rfl ?_
    refine g_callVI C K (c_X1_tryToRefuse W9 hb_407659L hb_407659k a0 (rg_w r_407668 (by decide) (by decide)) hUI_407670) hb_407659L hb_407659k (by decide) rfl v_11_241 rfl ⟨rfl, rfl⟩ ⟨Nat.le_of_ble_eq_true rfl, Nat.le_of_ble_eq_true rfl⟩ (Nat.le_of_ble_eq_true rfl) ⟨Nat.le_of_ble_eq_true rfl, Nat.le_of_ble_eq_true rfl⟩ dX11_refuse_30 rfl (st := [.ref x]) (fun x_407675 I_407676 J_407677 h_407678 => ?_)
    obtain ⟨hUI_407676, hFI_407676, hGJ_407677, rx_407675⟩ := h_407678
    have hF_407679 := fq_tr hF_407673 hFI_407676 (by decide)
    have hG_407680 := fq_tr hG_407674 hGJ_407677 (by decide)
    refine g_callVI C K (c_X11_keptIfDone W9 hLx hkx x_407675 (rg_w rx_407675 (by decide) (by decide)) hUI_407676) hLx hkx (by decide) rfl v_11_232 rfl ⟨rfl, rfl⟩ ⟨Nat.le_of_ble_eq_true rfl, Nat.le_of_ble_eq_true rfl⟩ (Nat.le_of_ble_eq_true rfl) ⟨Nat.le_of_ble_eq_true rfl, Nat.le_of_ble_eq_true rfl⟩ dX11_refuse_33 rfl (st := []) (fun x_407681 I_407682 J_407683 h_407684 => ?_)
    obtain ⟨hUI_407682, hFI_407682, hGJ_407683, rx_407681⟩ := h_407684
    have hF_407685 := fq_tr hF_407679 hFI_407682 (by decide)
    have hG_407686 := fq_tr hG_407680 hGJ_407683 (by decide)
    exact g_zret (ty := .int) (r := x_407681) B K rfl (rfl) ⟨hUI_407682, hF_407685, hG_407686, rg_w rx_407681 (by decide) (by decide)⟩ dX11_refuse_36
  · skip
    have r_407687 := (⟨(rx_407661).1, (eq_rg (h_407665) rc_0).2⟩ : Rg 0 0 x_407661)
    refine g_iconst C (v := (-1)) dX11_refuse_11 (by decide) ?_
    exact g_zret (ty := .int) (r := (-1)) B K rfl (rfl) ⟨hU, hF, hG, rg_w rc_m1 (by decide) (by decide)⟩ dX11_refuse_12
set_option maxRecDepth 100000 in
set_option maxHeartbeats 8000000 in
theorem c_X1_tryToAccept {l : Launch} {D : va_G} {cy : Nat → ClassId} {L : List Nat} {κ ln : Nat → Nat} {R : Nat → Nat → Option Nat} {I : Nat → Nat → Int32} {J : Nat → Nat → Int64} {ow : Nat → Nat × Nat} (W9 : ∀ a ∈ L, Shp L κ ln R ow a) {x : Nat} (hLx : x ∈ L) (hkx : κ x = 1) (a0 : Int32) (ra0 : Rg (-1) 6 a0) (hU : Uv L κ ow I) : CtI l yX1_tryToAccept cX1_tryToAccept 2 (some .int) { frames := 1, cells := 0, slots := 0, locals := 21 } D cy L κ ln R I J [.ref x, .int a0] (fun r I2 J2 => Uv L κ ow I2 ∧ Fq L κ ow [108] I I2 ∧ Fq L κ ow [] J J2 ∧ Rg 0 2 r) := by
  refine CtI.of (by decide +kernel) (Nat.le_of_ble_eq_true rfl) ?_
  intro p e s m below meth c B K
  have C := B.1
  have hF : Fq L κ ow [108] I I := fq_rf
  have hG : Fq L κ ow [] J J := fq_rf
  refine g_lo (is := [0, 1]) (lo2 := [(0, .ref x), (1, .int a0)]) rfl ?_
  refine g_aload_n C 0 dX1_tryToAccept_0 rfl rfl ?_
  refine g_iload_n C 1 dX1_tryToAccept_1 rfl rfl ?_
  refine g_callVI C K (c_X1_lives W9 hLx hkx a0 (ra0) hU) hLx hkx (by decide) rfl v_1_115 rfl ⟨rfl, rfl⟩ ⟨Nat.le_of_ble_eq_true rfl, Nat.le_of_ble_eq_true rfl⟩ (Nat.le_of_ble_eq_true rfl) ⟨Nat.le_of_ble_eq_true rfl, Nat.le_of_ble_eq_true rfl⟩ dX1_tryToAccept_2 rfl (st := []) (fun x_407730 I_407731 J_407732 h_407733 => ?_)
  obtain ⟨rfl, rfl, rx_407730⟩ := h_407733
  refine g_if_ne C (tgt := 10) dX1_tryToAccept_5 (by decide) (fun h_407734 => ?_) (fun h_407734 => ?_)
  · skip
    have n_407735 : ¬ x_407730 = 0 := h_407734
    have r_407736 := ne_lo (lo := 1) n_407735 rx_407730 rc_0 rfl (by decide)
    refine g_aload_n C 0 dX1_tryToAccept_10 rfl rfl ?_
    obtain ⟨x_407737, hx_407737, rx_407737⟩ := ex_get (I := I) (a := x) (j := 8) (lo := (-2147483648)) (hi := 2147483647) hU hLx (ro_o hkx (by decide)) rfl
    refine g_getI C K hLx hkx f_1_34 (v := x_407737) hx_407737 dX1_tryToAccept_11 ?_
    refine g_iload_n C 1 dX1_tryToAccept_14 rfl rfl ?_
    obtain ⟨x_407738, hx_407738, rx_407738⟩ := ex_any (z0 := x_407737 >>> (a0 &&& 31))
    refine g_ishr C (v := x_407738) dX1_tryToAccept_15 hx_407738 ?_
    refine g_iconst C (v := 1) dX1_tryToAccept_16 (by decide) ?_
    obtain ⟨x_407739, hx_407739, rx_407739⟩ := ex_andr (x := x_407738) (y := 1) (b := 1) (rg_w rc_1 (by decide) (by decide))
    refine g_iand C (v := x_407739) dX1_tryToAccept_17 hx_407739 ?_
    refine g_if_ne C (tgt := 23) dX1_tryToAccept_18 (by decide) (fun h_407740 => ?_) (fun h_407740 => ?_)
    · skip
      have n_407741 : ¬ x_407739 = 0 := h_407740
      have r_407742 := ne_lo (lo := 1) n_407741 rx_407739 rc_0 rfl (by decide)
      refine g_aload_n C 0 dX1_tryToAccept_23 rfl rfl ?_
      refine g_dup C dX1_tryToAccept_24 rfl ?_
      refine g_getI C K hLx hkx f_1_34 (v := x_407737) hx_407737 dX1_tryToAccept_25 ?_
      refine g_iconst C (v := 1) dX1_tryToAccept_28 (by decide) ?_
      refine g_iload_n C 1 dX1_tryToAccept_29 rfl rfl ?_
      obtain ⟨x_407743, hx_407743, rx_407743⟩ := ex_any (z0 := 1 <<< (a0 &&& 31))
      refine g_ishl C (v := x_407743) dX1_tryToAccept_30 hx_407743 ?_
      refine g_iconst C (v := (-1)) dX1_tryToAccept_31 (by decide) ?_
      obtain ⟨x_407744, hx_407744, rx_407744⟩ := ex_any (z0 := x_407743 ^^^ (-1))
      refine g_ixor C (v := x_407744) dX1_tryToAccept_32 hx_407744 ?_
      obtain ⟨x_407745, hx_407745, rx_407745⟩ := ex_any (z0 := x_407737 &&& x_407744)
      refine g_iand C (v := x_407745) dX1_tryToAccept_33 hx_407745 ?_
      refine h_putI C K hLx hkx f_1_34 p_1_8 dX1_tryToAccept_34 (fun I_407746 hI_407746 => ?_)
      have hU_407747 := uv_put hU hI_407746 (ro_o hkx (by decide)) (lo := (-2147483648)) (hi := 2147483647) rfl (rx_407745)
      have hF_407748 := fq_puto hF hI_407746 hkx (by decide) (by decide)
      refine g_iconst C (v := 0) dX1_tryToAccept_37 (by decide) ?_
      exact g_zret (ty := .int) (r := 0) B K rfl (rfl) ⟨hU_407747, hF_407748, hG, rg_w rc_0 (by decide) (by decide)⟩ dX1_tryToAccept_38
    · skip
      have r_407749 := (⟨(rx_407739).1, (eq_rg (h_407740) rc_0).2⟩ : Rg 0 0 x_407739)
      refine g_iconst C (v := 2) dX1_tryToAccept_21 (by decide) ?_
      exact g_zret (ty := .int) (r := 2) B K rfl (rfl) ⟨hU, hF, hG, rg_w rc_2 (by decide) (by decide)⟩ dX1_tryToAccept_22
  · skip
    have r_407750 := (⟨(rx_407730).1, (eq_rg (h_407734) rc_0).2⟩ : Rg 0 0 x_407730)
    refine g_iconst C (v := 1) dX1_tryToAccept_8 (by decide) ?_
    exact g_zret (ty := .int) (r := 1) B K rfl (rfl) ⟨hU, hF, hG, rg_w rc_1 (by decide) (by decide)⟩ dX1_tryToAccept_9
set_option maxRecDepth 100000 in
set_option maxHeartbeats 8000000 in
theorem c_X11_accept {l : Launch} {D : va_G} {cy : Nat → ClassId} {L : List Nat} {κ ln : Nat → Nat} {R : Nat → Nat → Option Nat} {I : Nat → Nat → Int32} {J : Nat → Nat → Int64} {ow : Nat → Nat × Nat} (W9 : ∀ a ∈ L, Shp L κ ln R ow a) {x : Nat} (hLx : x ∈ L) (hkx : κ x = 11) (a0 : Int32) (hU : Uv L κ ow I) : CtI l yX11_accept cX11_accept 2 (some .int) { frames := 3, cells := 0, slots := 0, locals := 102 } D cy L κ ln R I J [.ref x, .int a0] (fun r I2 J2 => Uv L κ ow I2 ∧ Fq L κ ow [107, 108, 109, 110, 111, 112, 501, 502, 16100, 16200, 16300, 16400, 16500, 16600] I I2 ∧ Fq L κ ow [] J J2 ∧ Rg (-1) 3 r) := by
  refine CtI.of (by decide +kernel) (Nat.le_of_ble_eq_true rfl) ?_
  intro p e s m below meth c B K
  have C := B.1
  have hF : Fq L κ ow [107, 108, 109, 110, 111, 112, 501, 502, 16100, 16200, 16300, 16400, 16500, 16600] I I := fq_rf
  have hG : Fq L κ ow [] J J := fq_rf
  obtain ⟨b_407811, hb_407811, hb_407811L, hb_407811k⟩ := shp_o (W9 x hLx) hkx 1 8 rfl (by decide)
  obtain ⟨b_407812, hb_407812, hb_407812L, hb_407812k⟩ := shp_o (W9 x hLx) hkx 2 1 rfl (by decide)
  obtain ⟨b_407813, hb_407813, hb_407813L, hb_407813k⟩ := shp_o (W9 x hLx) hkx 4 5 rfl (by decide)
  refine g_lo (is := [0, 1]) (lo2 := [(0, .ref x), (1, .int a0)]) rfl ?_
  refine g_aload_n C 0 dX11_accept_0 rfl rfl ?_
  refine g_getR C K hLx hkx f_11_19 hb_407811 dX11_accept_1 ?_
  refine g_iload_n C 1 dX11_accept_4 rfl rfl ?_
  refine g_callVI C K (c_X8_hasPerson W9 hb_407811L hb_407811k a0  hU) hb_407811L hb_407811k (by decide) rfl v_11_133 rfl ⟨rfl, rfl⟩ ⟨Nat.le_of_ble_eq_true rfl, Nat.le_of_ble_eq_true rfl⟩ (Nat.le_of_ble_eq_true rfl) ⟨Nat.le_of_ble_eq_true rfl, Nat.le_of_ble_eq_true rfl⟩ dX11_accept_5 rfl (st := []) (fun x_407814 I_407815 J_407816 h_407817 => ?_)
  obtain ⟨rfl, rfl, rx_407814, ex_407814⟩ := h_407817
  refine g_if_ne C (tgt := 13) dX11_accept_8 (by decide) (fun h_407818 => ?_) (fun h_407818 => ?_)
  · skip
    have n_407819 : ¬ x_407814 = 0 := h_407818
    have r_407820 := ne_lo (lo := 1) n_407819 rx_407814 rc_0 rfl (by decide)
    have r_407821 := rg_i (rg_all a0) ((ex_407814) (rg_nz r_407820 (by decide))) (lo := 0) (hi := 6) (by decide) (by decide)
    refine g_aload_n C 0 dX11_accept_13 rfl rfl ?_
    refine g_getR C K hLx hkx f_11_38 hb_407813 dX11_accept_14 ?_
    refine g_aload_n C 0 dX11_accept_17 rfl rfl ?_
    refine g_getR C K hLx hkx f_11_28 hb_407812 dX11_accept_18 ?_
    refine g_callVV C K (c_X5_note W9 hb_407813L hb_407813k hb_407812L hb_407812k  hU) hb_407813L hb_407813k (by decide) rfl v_11_225 rfl ⟨rfl, rfl⟩ ⟨Nat.le_of_ble_eq_true rfl, Nat.le_of_ble_eq_true rfl⟩ (Nat.le_of_ble_eq_true rfl) ⟨Nat.le_of_ble_eq_true rfl, Nat.le_of_ble_eq_true rfl⟩ dX11_accept_21 rfl (st := []) (fun I_407823 J_407824 h_407825 => ?_)
    obtain ⟨hUI_407823, hFI_407823, hGJ_407824⟩ := h_407825
    have hF_407826 := fq_tr hF hFI_407823 (by decide)
    have hG_407827 := fq_tr hG hGJ_407824 (by decide)
    refine g_aload_n C 0 dX11_accept_24 rfl rfl ?_
    refine g_aload_n C 0 dX11_accept_25 rfl rfl ?_
    refine g_getR C K hLx hkx f_11_28 hb_407812 dX11_accept_26 ?_
    refine g_iload_n C 1 dX11_accept_29 rfl rfl ?_
    refine g_callVI C K (c_X1_tryToAccept W9 hb_407812L hb_407812k a0 (rg_w r_407821 (by decide) (by decide)) hUI_407823) hb_407812L hb_407812k (by decide) rfl v_11_244 rfl ⟨rfl, rfl⟩ ⟨Nat.le_of_ble_eq_true rfl, Nat.le_of_ble_eq_true rfl⟩ (Nat.le_of_ble_eq_true rfl) ⟨Nat.le_of_ble_eq_true rfl, Nat.le_of_ble_eq_true rfl⟩ dX11_accept_30 rfl (st := [.ref x]) (fun x_407828 I_407829 J_407830 h_407831 => ?_)
    obtain ⟨hUI_407829, hFI_407829, hGJ_407830, rx_407828⟩ := h_407831
    have hF_407832 := fq_tr hF_407826 hFI_407829 (by decide)
    have hG_407833 := fq_tr hG_407827 hGJ_407830 (by decide)
    refine g_callVI C K (c_X11_keptIfDone W9 hLx hkx x_407828 (rg_w rx_407828 (by decide) (by decide)) hUI_407829) hLx hkx (by decide) rfl v_11_232 rfl ⟨rfl, rfl⟩ ⟨Nat.le_of_ble_eq_true rfl, Nat.le_of_ble_eq_true rfl⟩ (Nat.le_of_ble_eq_true rfl) ⟨Nat.le_of_ble_eq_true rfl, Nat.le_of_ble_eq_true rfl⟩ dX11_accept_33 rfl (st := []) (fun x_407834 I_407835 J_407836 h_407837 => ?_)
    obtain ⟨hUI_407835, hFI_407835, hGJ_407836, rx_407834⟩ := h_407837
    have hF_407838 := fq_tr hF_407832 hFI_407835 (by decide)
    have hG_407839 := fq_tr hG_407833 hGJ_407836 (by decide)
    exact g_zret (ty := .int) (r := x_407834) B K rfl (rfl) ⟨hUI_407835, hF_407838, hG_407839, rg_w rx_407834 (by decide) (by decide)⟩ dX11_accept_36
  · skip
    have r_407840 := (⟨(rx_407814).1, (eq_rg (h_407818) rc_0).2⟩ : Rg 0 0 x_407814)
    refine g_iconst C (v := (-1)) dX11_accept_11 (by decide) ?_
    exact g_zret (ty := .int) (r := (-1)) B K rfl (rfl) ⟨hU, hF, hG, rg_w rc_m1 (by decide) (by decide)⟩ dX11_accept_12
set_option maxRecDepth 100000 in
set_option maxHeartbeats 8000000 in
theorem c_X11_keptIfAny {l : Launch} {D : va_G} {cy : Nat → ClassId} {L : List Nat} {κ ln : Nat → Nat} {R : Nat → Nat → Option Nat} {I : Nat → Nat → Int32} {J : Nat → Nat → Int64} {ow : Nat → Nat × Nat} (W9 : ∀ a ∈ L, Shp L κ ln R ow a) {x : Nat} (hLx : x ∈ L) (hkx : κ x = 11) (a0 : Int32) (ra0 : Rg 0 64 a0) (hU : Uv L κ ow I) : CtI l yX11_keptIfAny cX11_keptIfAny 2 (some .int) { frames := 2, cells := 0, slots := 0, locals := 80 } D cy L κ ln R I J [.ref x, .int a0] (fun r I2 J2 => Uv L κ ow I2 ∧ Fq L κ ow [501, 502] I I2 ∧ Fq L κ ow [] J J2 ∧ Rg 0 64 r) := by
  refine CtI.of (by decide +kernel) (Nat.le_of_ble_eq_true rfl) ?_
  intro p e s m below meth c B K
  have C := B.1
  have hF : Fq L κ ow [501, 502] I I := fq_rf
  have hG : Fq L κ ow [] J J := fq_rf
  obtain ⟨b_407861, hb_407861, hb_407861L, hb_407861k⟩ := shp_o (W9 x hLx) hkx 4 5 rfl (by decide)
  refine g_lo (is := [0, 1]) (lo2 := [(0, .ref x), (1, .int a0)]) rfl ?_
  refine g_iload_n C 1 dX11_keptIfAny_0 rfl rfl ?_
  refine g_if_le C (tgt := 11) dX11_keptIfAny_1 (by decide) (fun h_407862 => ?_) (fun h_407862 => ?_)
  · skip
    have r_407863 := le_l (h_407862) ra0 rc_0
    refine g_iload_n C 1 dX11_keptIfAny_11 rfl rfl ?_
    exact g_zret (ty := .int) (r := a0) B K rfl (rfl) ⟨hU, hF, hG, rg_w r_407863 (by decide) (by decide)⟩ dX11_keptIfAny_12
  · skip
    have r_407864 := lt_r (lo := 1) (nle h_407862) rc_0 ra0 (by decide)
    refine g_aload_n C 0 dX11_keptIfAny_4 rfl rfl ?_
    refine g_getR C K hLx hkx f_11_38 hb_407861 dX11_keptIfAny_5 ?_
    refine g_callVV C K (c_X5_keepNoted W9 hb_407861L hb_407861k   hU) hb_407861L hb_407861k (by decide) rfl v_11_260 rfl ⟨rfl, rfl⟩ ⟨Nat.le_of_ble_eq_true rfl, Nat.le_of_ble_eq_true rfl⟩ (Nat.le_of_ble_eq_true rfl) ⟨Nat.le_of_ble_eq_true rfl, Nat.le_of_ble_eq_true rfl⟩ dX11_keptIfAny_8 rfl (st := []) (fun I_407866 J_407867 h_407868 => ?_)
    obtain ⟨hUI_407866, hFI_407866, hGJ_407867⟩ := h_407868
    have hF_407869 := fq_tr hF hFI_407866 (by decide)
    have hG_407870 := fq_tr hG hGJ_407867 (by decide)
    refine g_iload_n C 1 dX11_keptIfAny_11 rfl rfl ?_
    exact g_zret (ty := .int) (r := a0) B K rfl (rfl) ⟨hUI_407866, hF_407869, hG_407870, rg_w r_407864 (by decide) (by decide)⟩ dX11_keptIfAny_12
set_option maxRecDepth 100000 in
set_option maxHeartbeats 8000000 in
theorem c_X5_takeBack {l : Launch} {D : va_G} {cy : Nat → ClassId} {L : List Nat} {κ ln : Nat → Nat} {R : Nat → Nat → Option Nat} {I : Nat → Nat → Int32} {J : Nat → Nat → Int64} {ow : Nat → Nat × Nat} (W9 : ∀ a ∈ L, Shp L κ ln R ow a) {x : Nat} (hLx : x ∈ L) (hkx : κ x = 5) {a0 : Nat} (hLa0 : a0 ∈ L) (hka0 : κ a0 = 1) (hU : Uv L κ ow I) : CtI l yX5_takeBack cX5_takeBack 2 (some .int) { frames := 2, cells := 0, slots := 0, locals := 81 } D cy L κ ln R I J [.ref x, .ref a0] (fun r I2 J2 => Uv L κ ow I2 ∧ Fq L κ ow [107, 108, 109, 110, 111, 112, 501, 502, 16100, 16200, 16300, 16400, 16500, 16600] I I2 ∧ Fq L κ ow [] J J2 ∧ Rg (-1) 7 r) := by
  refine CtI.of (by decide +kernel) (Nat.le_of_ble_eq_true rfl) ?_
  intro p e s m below meth c B K
  have C := B.1
  have hF : Fq L κ ow [107, 108, 109, 110, 111, 112, 501, 502, 16100, 16200, 16300, 16400, 16500, 16600] I I := fq_rf
  have hG : Fq L κ ow [] J J := fq_rf
  obtain ⟨b_407943, hb_407943, hb_407943L, hb_407943k, hb_407943n, hb_407943o⟩ := shp_a (W9 x hLx) hkx 0 17 9 rfl (by decide)
  refine g_lo (is := [0, 1]) (lo2 := [(0, .ref x), (1, .ref a0)]) rfl ?_
  refine g_aload_n C 0 dX5_takeBack_0 rfl rfl ?_
  obtain ⟨x_407944, hx_407944, rx_407944⟩ := ex_get (I := I) (a := x) (j := 1) (lo := 0) (hi := 8) hU hLx (ro_o hkx (by decide)) rfl
  refine g_getI C K hLx hkx f_5_17 (v := x_407944) hx_407944 dX5_takeBack_1 ?_
  refine g_if_ne C (tgt := 9) dX5_takeBack_4 (by decide) (fun h_407945 => ?_) (fun h_407945 => ?_)
  · skip
    have n_407946 : ¬ x_407944 = 0 := h_407945
    have r_407947 := ne_lo (lo := 1) n_407946 rx_407944 rc_0 rfl (by decide)
    refine g_aload_n C 0 dX5_takeBack_9 rfl rfl ?_
    refine g_dup C dX5_takeBack_10 rfl ?_
    refine g_getI C K hLx hkx f_5_17 (v := x_407944) hx_407944 dX5_takeBack_11 ?_
    refine g_iconst C (v := 1) dX5_takeBack_14 (by decide) ?_
    obtain ⟨x_407948, hx_407948, rx_407948, tx_407948⟩ := ex_sub 0 7 r_407947 rc_1 (by decide) (by decide) (by decide) (by decide)
    refine g_isub C (v := x_407948) dX5_takeBack_15 hx_407948 ?_
    refine h_putI C K hLx hkx f_5_17 p_5_1 dX5_takeBack_16 (fun I_407949 hI_407949 => ?_)
    have hU_407950 := uv_put hU hI_407949 (ro_o hkx (by decide)) (lo := 0) (hi := 8) rfl (rg_w rx_407948 (by decide) (by decide))
    have hF_407951 := fq_puto hF hI_407949 hkx (by decide) (by decide)
    refine g_aload_n C 0 dX5_takeBack_19 rfl rfl ?_
    refine g_aload_n C 0 dX5_takeBack_20 rfl rfl ?_
    obtain ⟨x_407952, hx_407952, rx_407952⟩ := ex_get (I := I_407949) (a := x) (j := 2) (lo := 0) (hi := 8) hU_407950 hLx (ro_o hkx (by decide)) rfl
    refine g_getI C K hLx hkx f_5_21 (v := x_407952) hx_407952 dX5_takeBack_21 ?_
    refine g_if_le C (tgt := 36) dX5_takeBack_24 (by decide) (fun h_407953 => ?_) (fun h_407953 => ?_)
    · skip
      have r_407954 := le_l (h_407953) rx_407952 rc_0
      refine g_bipush C (v := 8) dX5_takeBack_36 (by decide) ?_
      refine h_putI C K hLx hkx f_5_21 p_5_2 dX5_takeBack_38 (fun I_407955 hI_407955 => ?_)
      have hU_407956 := uv_put hU_407950 hI_407955 (ro_o hkx (by decide)) (lo := 0) (hi := 8) rfl (rg_w rc_8 (by decide) (by decide))
      have hF_407957 := fq_puto hF_407951 hI_407955 hkx (by decide) (by decide)
      refine g_aload_n C 1 dX5_takeBack_41 rfl rfl ?_
      refine g_aload_n C 0 dX5_takeBack_42 rfl rfl ?_
      refine g_getR C K hLx hkx f_5_13 hb_407943 dX5_takeBack_43 ?_
      refine g_aload_n C 0 dX5_takeBack_46 rfl rfl ?_
      refine g_getI C K hLx hkx f_5_21 (v := 8) (kp_s hI_407955) dX5_takeBack_47 ?_
      obtain ⟨b_407958, hb_407958, hb_407958L, hb_407958k⟩ := (W9 b_407943 hb_407943L).2.1 hb_407943k (8) (by rw [hb_407943n]; decide)
      refine h_aaldC C K hb_407943L hb_407943k (8) (by decide) (by decide) (by rw [hb_407943n]; decide) hb_407958 dX5_takeBack_50 ?_
      refine g_callVV C K (c_X1_become W9 hLa0 hka0 hb_407958L hb_407958k  hU_407956) hLa0 hka0 (by decide) rfl v_5_27 rfl ⟨rfl, rfl⟩ ⟨Nat.le_of_ble_eq_true rfl, Nat.le_of_ble_eq_true rfl⟩ (Nat.le_of_ble_eq_true rfl) ⟨Nat.le_of_ble_eq_true rfl, Nat.le_of_ble_eq_true rfl⟩ dX5_takeBack_51 rfl (st := []) (fun I_407960 J_407961 h_407962 => ?_)
      obtain ⟨hUI_407960, hFI_407960, hGJ_407961⟩ := h_407962
      have hF_407963 := fq_tr hF_407957 hFI_407960 (by decide)
      have hG_407964 := fq_tr hG hGJ_407961 (by decide)
      refine g_aload_n C 0 dX5_takeBack_54 rfl rfl ?_
      refine g_getI C K hLx hkx f_5_17 (v := x_407948) (fq_at hFI_407960 hLx hkx (by decide) (by decide) (kp_j hI_407955 (by decide) (kp_s hI_407949))) dX5_takeBack_55 ?_
      exact g_zret (ty := .int) (r := x_407948) B K rfl (rfl) ⟨hUI_407960, hF_407963, hG_407964, rg_w rx_407948 (by decide) (by decide)⟩ dX5_takeBack_58
    · skip
      have r_407965 := lt_r (lo := 1) (nle h_407953) rc_0 rx_407952 (by decide)
      refine g_aload_n C 0 dX5_takeBack_27 rfl rfl ?_
      refine g_getI C K hLx hkx f_5_21 (v := x_407952) hx_407952 dX5_takeBack_28 ?_
      refine g_iconst C (v := 1) dX5_takeBack_31 (by decide) ?_
      obtain ⟨x_407966, hx_407966, rx_407966, tx_407966⟩ := ex_sub 0 7 r_407965 rc_1 (by decide) (by decide) (by decide) (by decide)
      refine g_isub C (v := x_407966) dX5_takeBack_32 hx_407966 ?_
      refine g_goto C (tgt := 38) dX5_takeBack_33 (by decide) ?_
      refine h_putI C K hLx hkx f_5_21 p_5_2 dX5_takeBack_38 (fun I_407967 hI_407967 => ?_)
      have hU_407968 := uv_put hU_407950 hI_407967 (ro_o hkx (by decide)) (lo := 0) (hi := 8) rfl (rg_w rx_407966 (by decide) (by decide))
      have hF_407969 := fq_puto hF_407951 hI_407967 hkx (by decide) (by decide)
      refine g_aload_n C 1 dX5_takeBack_41 rfl rfl ?_
      refine g_aload_n C 0 dX5_takeBack_42 rfl rfl ?_
      refine g_getR C K hLx hkx f_5_13 hb_407943 dX5_takeBack_43 ?_
      refine g_aload_n C 0 dX5_takeBack_46 rfl rfl ?_
      refine g_getI C K hLx hkx f_5_21 (v := x_407966) (kp_s hI_407967) dX5_takeBack_47 ?_
      obtain ⟨b_407970, hb_407970, hb_407970L, hb_407970k⟩ := (W9 b_407943 hb_407943L).2.1 hb_407943k (x_407966.toNatClampNeg) (ix_lt rx_407966 (by decide) hb_407943n (by decide))
      refine h_aaldC C K hb_407943L hb_407943k (x_407966.toNatClampNeg) (rfl) (ix_0 rx_407966 (by decide)) (ix_lt rx_407966 (by decide) hb_407943n (by decide)) hb_407970 dX5_takeBack_50 ?_
      refine g_callVV C K (c_X1_become W9 hLa0 hka0 hb_407970L hb_407970k  hU_407968) hLa0 hka0 (by decide) rfl v_5_27 rfl ⟨rfl, rfl⟩ ⟨Nat.le_of_ble_eq_true rfl, Nat.le_of_ble_eq_true rfl⟩ (Nat.le_of_ble_eq_true rfl) ⟨Nat.le_of_ble_eq_true rfl, Nat.le_of_ble_eq_true rfl⟩ dX5_takeBack_51 rfl (st := []) (fun I_407972 J_407973 h_407974 => ?_)
      obtain ⟨hUI_407972, hFI_407972, hGJ_407973⟩ := h_407974
      have hF_407975 := fq_tr hF_407969 hFI_407972 (by decide)
      have hG_407976 := fq_tr hG hGJ_407973 (by decide)
      refine g_aload_n C 0 dX5_takeBack_54 rfl rfl ?_
      refine g_getI C K hLx hkx f_5_17 (v := x_407948) (fq_at hFI_407972 hLx hkx (by decide) (by decide) (kp_j hI_407967 (by decide) (kp_s hI_407949))) dX5_takeBack_55 ?_
      exact g_zret (ty := .int) (r := x_407948) B K rfl (rfl) ⟨hUI_407972, hF_407975, hG_407976, rg_w rx_407948 (by decide) (by decide)⟩ dX5_takeBack_58
  · skip
    have r_407977 := (⟨(rx_407944).1, (eq_rg (h_407945) rc_0).2⟩ : Rg 0 0 x_407944)
    refine g_iconst C (v := (-1)) dX5_takeBack_7 (by decide) ?_
    exact g_zret (ty := .int) (r := (-1)) B K rfl (rfl) ⟨hU, hF, hG, rg_w rc_m1 (by decide) (by decide)⟩ dX5_takeBack_8
set_option maxRecDepth 100000 in
set_option maxHeartbeats 8000000 in
theorem c_X11_undo {l : Launch} {D : va_G} {cy : Nat → ClassId} {L : List Nat} {κ ln : Nat → Nat} {R : Nat → Nat → Option Nat} {I : Nat → Nat → Int32} {J : Nat → Nat → Int64} {ow : Nat → Nat × Nat} (W9 : ∀ a ∈ L, Shp L κ ln R ow a) {x : Nat} (hLx : x ∈ L) (hkx : κ x = 11) (hU : Uv L κ ow I) : CtI l yX11_undo cX11_undo 1 (some .int) { frames := 3, cells := 0, slots := 0, locals := 102 } D cy L κ ln R I J [.ref x] (fun r I2 J2 => Uv L κ ow I2 ∧ Fq L κ ow [107, 108, 109, 110, 111, 112, 501, 502, 16100, 16200, 16300, 16400, 16500, 16600] I I2 ∧ Fq L κ ow [] J J2 ∧ Rg (-1) 7 r) := by
  refine CtI.of (by decide +kernel) (Nat.le_of_ble_eq_true rfl) ?_
  intro p e s m below meth c B K
  have C := B.1
  have hF : Fq L κ ow [107, 108, 109, 110, 111, 112, 501, 502, 16100, 16200, 16300, 16400, 16500, 16600] I I := fq_rf
  have hG : Fq L κ ow [] J J := fq_rf
  obtain ⟨b_407994, hb_407994, hb_407994L, hb_407994k⟩ := shp_o (W9 x hLx) hkx 2 1 rfl (by decide)
  obtain ⟨b_407995, hb_407995, hb_407995L, hb_407995k⟩ := shp_o (W9 x hLx) hkx 4 5 rfl (by decide)
  refine g_lo (is := [0]) (lo2 := [(0, .ref x)]) rfl ?_
  refine g_aload_n C 0 dX11_undo_0 rfl rfl ?_
  refine g_getR C K hLx hkx f_11_38 hb_407995 dX11_undo_1 ?_
  refine g_aload_n C 0 dX11_undo_4 rfl rfl ?_
  refine g_getR C K hLx hkx f_11_28 hb_407994 dX11_undo_5 ?_
  refine g_callVI C K (c_X5_takeBack W9 hb_407995L hb_407995k hb_407994L hb_407994k  hU) hb_407995L hb_407995k (by decide) rfl v_11_256 rfl ⟨rfl, rfl⟩ ⟨Nat.le_of_ble_eq_true rfl, Nat.le_of_ble_eq_true rfl⟩ (Nat.le_of_ble_eq_true rfl) ⟨Nat.le_of_ble_eq_true rfl, Nat.le_of_ble_eq_true rfl⟩ dX11_undo_8 rfl (st := []) (fun x_407996 I_407997 J_407998 h_407999 => ?_)
  obtain ⟨hUI_407997, hFI_407997, hGJ_407998, rx_407996⟩ := h_407999
  have hF_408000 := fq_tr hF hFI_407997 (by decide)
  have hG_408001 := fq_tr hG hGJ_407998 (by decide)
  exact g_zret (ty := .int) (r := x_407996) B K rfl (rfl) ⟨hUI_407997, hF_408000, hG_408001, rx_407996⟩ dX11_undo_11
set_option maxRecDepth 100000 in
set_option maxHeartbeats 8000000 in
theorem c_X1_firstBehind {l : Launch} {D : va_G} {cy : Nat → ClassId} {L : List Nat} {κ ln : Nat → Nat} {R : Nat → Nat → Option Nat} {I : Nat → Nat → Int32} {J : Nat → Nat → Int64} {ow : Nat → Nat × Nat} (W9 : ∀ a ∈ L, Shp L κ ln R ow a) {x : Nat} (hLx : x ∈ L) (hkx : κ x = 1) (a0 : Int32) (a1 : Int32) (ra0 : Rg 0 6 a0) (ra1 : Rg 0 127 a1) (hU : Uv L κ ow I) : CtI l yX1_firstBehind cX1_firstBehind 5 (some .int) { frames := 0, cells := 0, slots := 0, locals := 0 } D cy L κ ln R I J [.ref x, .int a0, .int a1] (fun r I2 J2 => I = I2 ∧ J = J2 ∧ Rg (-1) 6 r) := by
  refine CtI.of (by decide +kernel) (Nat.le_of_ble_eq_true rfl) ?_
  intro p e s m below meth c B K
  have C := B.1
  obtain ⟨b_408177, hb_408177, hb_408177L, hb_408177k⟩ := shp_o (W9 x hLx) hkx 0 8 rfl (by decide)
  refine g_lo (is := [0, 1, 2]) (lo2 := [(0, .ref x), (1, .int a0), (2, .int a1)]) rfl ?_
  have l_5 : ∀ (n_5 : Nat) (v_408178 : Int32) (rv_408178 : Rg 0 6 v_408178) (v_408179 : Int32) (rv_408179 : Rg 0 127 v_408179) (v_408180 : Int32) (rv_408180 : Rg 0 6 v_408180) (v_408181 : Int32) (rv_408181 : Rg 1 7 v_408181) (hm_408182 : 7 < (v_408181 : Int32).toInt + (n_5 : Int)), WG p l e { frames := 0, cells := 0, slots := 0, locals := 0 } s m ([.ref x, .int a0, .int a1] : List Value).toArray below meth c 5 0 0 (MQ below (Qi_ D cy L κ ln R (fun r I2 J2 => I = I2 ∧ J = J2 ∧ Rg (-1) 6 r)) ([.ref x, .int a0, .int a1] : List Value).toArray s 0 0 (Al_ L)) D cy (Al_ L) s.heap L κ ln R I J 5 [(0, .ref x), (1, .int v_408178), (2, .int v_408179), (3, .int v_408180), (4, .int v_408181)] [] := by
    intro n_5
    induction n_5 with
    | zero =>
      intro v_408178 rv_408178 v_408179 rv_408179 v_408180 rv_408180 v_408181 rv_408181 hm_408182
      exact ms_0 rv_408181 hm_408182
    | succ n_5 ih_5 =>
      intro v_408178 rv_408178 v_408179 rv_408179 v_408180 rv_408180 v_408181 rv_408181 hm_408182
      refine g_iload C 4 dX1_firstBehind_5 rfl ?_
      refine g_aload_n C 0 dX1_firstBehind_7 rfl rfl ?_
      refine g_getR C K hLx hkx f_1_52 hb_408177 dX1_firstBehind_8 ?_
      obtain ⟨x_408183, hx_408183, rx_408183⟩ := ex_get (I := I) (a := b_408177) (j := 5) (lo := 0) (hi := 7) hU hb_408177L (ro_o hb_408177k (by decide)) rfl
      refine g_getI C K hb_408177L hb_408177k f_1_68 (v := x_408183) hx_408183 dX1_firstBehind_11 ?_
      refine g_icmp_ge C (tgt := 54) dX1_firstBehind_14 (by decide) (fun h_408184 => ?_) (fun h_408184 => ?_)
      · skip
        refine g_iconst C (v := (-1)) dX1_firstBehind_54 (by decide) ?_
        exact g_zret (ty := .int) (r := (-1)) B K rfl (rfl) ⟨rfl, rfl, rg_w rc_m1 (by decide) (by decide)⟩ dX1_firstBehind_55
      · skip
        have r_408185 := lt_l (hi := 6) (nle h_408184) rv_408181 rx_408183 (by decide)
        have r_408186 := lt_r (lo := 2) (nle h_408184) rv_408181 rx_408183 (by decide)
        refine g_iload_n C 3 dX1_firstBehind_17 rfl rfl ?_
        refine g_iconst C (v := 1) dX1_firstBehind_18 (by decide) ?_
        obtain ⟨x_408187, hx_408187, rx_408187, tx_408187⟩ := ex_add 1 7 rv_408180 rc_1 (by decide) (by decide) (by decide) (by decide)
        refine g_iadd C (v := x_408187) dX1_firstBehind_19 hx_408187 ?_
        refine g_aload_n C 0 dX1_firstBehind_20 rfl rfl ?_
        refine g_getR C K hLx hkx f_1_52 hb_408177 dX1_firstBehind_21 ?_
        refine g_getI C K hb_408177L hb_408177k f_1_68 (v := x_408183) hx_408183 dX1_firstBehind_24 ?_
        refine g_icmp_ge C (tgt := 36) dX1_firstBehind_27 (by decide) (fun h_408188 => ?_) (fun h_408188 => ?_)
        · skip
          have r_408189 := le_r (h_408188) r_408186 rx_408187
          refine g_iconst C (v := 0) dX1_firstBehind_36 (by decide) ?_
          refine g_istore_n C dX1_firstBehind_37 rfl (by decide) (lo2 := [(3, .int 0), (0, .ref x), (1, .int v_408178), (2, .int v_408179), (4, .int v_408181)]) rfl ?_
          refine g_iload_n C 3 dX1_firstBehind_38 rfl rfl ?_
          refine g_iload_n C 0 dX1_firstBehind_39 rfl rfl ?_
          obtain ⟨x_408190, hx_408190, rx_408190⟩ := ex_shr (x := v_408179) (y := 0) (b := 127) (rv_408179)
          refine g_ishr C (v := x_408190) dX1_firstBehind_40 hx_408190 ?_
          refine g_iconst C (v := 1) dX1_firstBehind_41 (by decide) ?_
          obtain ⟨x_408191, hx_408191, rx_408191⟩ := ex_andr (x := x_408190) (y := 1) (b := 1) (rg_w rc_1 (by decide) (by decide))
          refine g_iand C (v := x_408191) dX1_firstBehind_42 hx_408191 ?_
          refine g_if_eq C (tgt := 48) dX1_firstBehind_43 (by decide) (fun h_408192 => ?_) (fun h_408192 => ?_)
          · skip
            have r_408193 := (⟨(rx_408191).1, (eq_rg (h_408192) rc_0).2⟩ : Rg 0 0 x_408191)
            obtain ⟨x_408194, hx_408194, rx_408194, tx_408194⟩ := ex_add (y := 1) 2 7 r_408185 rc_1 (by decide) (by decide) (by decide) (by decide)
            refine g_iinc C dX1_firstBehind_48 (k := 4) (v := x_408194) rfl hx_408194 (by decide) (lo2 := [(4, .int x_408194), (3, .int 0), (0, .ref x), (1, .int v_408178), (2, .int v_408179)]) rfl ?_
            refine g_goto C (tgt := 5) dX1_firstBehind_51 (by decide) ?_
            refine g_lo (is := [2, 3, 4, 1, 0]) (lo2 := [(0, .ref x), (1, .int v_408178), (2, .int v_408179), (3, .int 0), (4, .int x_408194)]) rfl ?_
            exact ih_5 v_408178 (rv_408178) v_408179 (rv_408179) 0 (rg_w rc_0 (by decide) (by decide)) x_408194 (rg_w rx_408194 (by decide) (by decide)) (ms_1 hm_408182 (ti_k tx_408194 rc_1) (by decide))
          · skip
            have n_408195 : ¬ x_408191 = 0 := h_408192
            have r_408196 := ne_lo (lo := 1) n_408195 rx_408191 rc_0 rfl (by decide)
            refine g_iload_n C 0 dX1_firstBehind_46 rfl rfl ?_
            exact g_zret (ty := .int) (r := 0) B K rfl (rfl) ⟨rfl, rfl, rg_w rc_0 (by decide) (by decide)⟩ dX1_firstBehind_47
        · skip
          have r_408197 := lt_l (hi := 6) (nle h_408188) rx_408187 r_408186 (by decide)
          refine g_iload_n C 3 dX1_firstBehind_30 rfl rfl ?_
          refine g_iconst C (v := 1) dX1_firstBehind_31 (by decide) ?_
          refine g_iadd C (v := x_408187) dX1_firstBehind_32 hx_408187 ?_
          refine g_goto C (tgt := 37) dX1_firstBehind_33 (by decide) ?_
          refine g_istore_n C dX1_firstBehind_37 rfl (by decide) (lo2 := [(3, .int x_408187), (0, .ref x), (1, .int v_408178), (2, .int v_408179), (4, .int v_408181)]) rfl ?_
          refine g_iload_n C 3 dX1_firstBehind_38 rfl rfl ?_
          refine g_iload_n C 0 dX1_firstBehind_39 rfl rfl ?_
          obtain ⟨x_408198, hx_408198, rx_408198⟩ := ex_shr (x := v_408179) (y := x_408187) (b := 127) (rv_408179)
          refine g_ishr C (v := x_408198) dX1_firstBehind_40 hx_408198 ?_
          refine g_iconst C (v := 1) dX1_firstBehind_41 (by decide) ?_
          obtain ⟨x_408199, hx_408199, rx_408199⟩ := ex_andr (x := x_408198) (y := 1) (b := 1) (rg_w rc_1 (by decide) (by decide))
          refine g_iand C (v := x_408199) dX1_firstBehind_42 hx_408199 ?_
          refine g_if_eq C (tgt := 48) dX1_firstBehind_43 (by decide) (fun h_408200 => ?_) (fun h_408200 => ?_)
          · skip
            have r_408201 := (⟨(rx_408199).1, (eq_rg (h_408200) rc_0).2⟩ : Rg 0 0 x_408199)
            obtain ⟨x_408202, hx_408202, rx_408202, tx_408202⟩ := ex_add (y := 1) 2 7 r_408185 rc_1 (by decide) (by decide) (by decide) (by decide)
            refine g_iinc C dX1_firstBehind_48 (k := 4) (v := x_408202) rfl hx_408202 (by decide) (lo2 := [(4, .int x_408202), (3, .int x_408187), (0, .ref x), (1, .int v_408178), (2, .int v_408179)]) rfl ?_
            refine g_goto C (tgt := 5) dX1_firstBehind_51 (by decide) ?_
            refine g_lo (is := [2, 3, 4, 1, 0]) (lo2 := [(0, .ref x), (1, .int v_408178), (2, .int v_408179), (3, .int x_408187), (4, .int x_408202)]) rfl ?_
            exact ih_5 v_408178 (rv_408178) v_408179 (rv_408179) x_408187 (rg_w r_408197 (by decide) (by decide)) x_408202 (rg_w rx_408202 (by decide) (by decide)) (ms_1 hm_408182 (ti_k tx_408202 rc_1) (by decide))
          · skip
            have n_408203 : ¬ x_408199 = 0 := h_408200
            have r_408204 := ne_lo (lo := 1) n_408203 rx_408199 rc_0 rfl (by decide)
            refine g_iload_n C 0 dX1_firstBehind_46 rfl rfl ?_
            exact g_zret (ty := .int) (r := x_408187) B K rfl (rfl) ⟨rfl, rfl, rg_w r_408197 (by decide) (by decide)⟩ dX1_firstBehind_47
  refine g_iload_n C 1 dX1_firstBehind_0 rfl rfl ?_
  refine g_istore_n C dX1_firstBehind_1 rfl (by decide) (lo2 := [(3, .int a0), (0, .ref x), (1, .int a0), (2, .int a1)]) rfl ?_
  refine g_iconst C (v := 1) dX1_firstBehind_2 (by decide) ?_
  refine g_istore C dX1_firstBehind_3 (by decide) (lo2 := [(4, .int 1), (3, .int a0), (0, .ref x), (1, .int a0), (2, .int a1)]) rfl ?_
  refine g_lo (is := [2, 3, 4, 1, 0]) (lo2 := [(0, .ref x), (1, .int a0), (2, .int a1), (3, .int a0), (4, .int 1)]) rfl ?_
  exact l_5 7 a0 (ra0) a1 (ra1) a0 (ra0) 1 (rg_w rc_1 (by decide) (by decide)) (ms_s (a := 1) (b := 7) (N := 7) (rg_w rc_1 (by decide) (by decide)) (by decide))
set_option maxRecDepth 100000 in
set_option maxHeartbeats 8000000 in
theorem c_X1_leastFed {l : Launch} {D : va_G} {cy : Nat → ClassId} {L : List Nat} {κ ln : Nat → Nat} {R : Nat → Nat → Option Nat} {I : Nat → Nat → Int32} {J : Nat → Nat → Int64} {ow : Nat → Nat × Nat} (W9 : ∀ a ∈ L, Shp L κ ln R ow a) {x : Nat} (hLx : x ∈ L) (hkx : κ x = 1) (a0 : Int32) (ra0 : Rg 0 127 a0) (hU : Uv L κ ow I) : CtI l yX1_leastFed cX1_leastFed 4 (some .int) { frames := 0, cells := 0, slots := 0, locals := 0 } D cy L κ ln R I J [.ref x, .int a0] (fun r I2 J2 => I = I2 ∧ J = J2 ∧ Rg (-1) 6 r) := by
  refine CtI.of (by decide +kernel) (Nat.le_of_ble_eq_true rfl) ?_
  intro p e s m below meth c B K
  have C := B.1
  obtain ⟨b_408377, hb_408377, hb_408377L, hb_408377k⟩ := shp_o (W9 x hLx) hkx 0 8 rfl (by decide)
  obtain ⟨b_408378, hb_408378, hb_408378L, hb_408378k, hb_408378n, hb_408378o⟩ := shp_a (W9 x hLx) hkx 4 14 7 rfl (by decide)
  refine g_lo (is := [0, 1]) (lo2 := [(0, .ref x), (1, .int a0)]) rfl ?_
  have l_4 : ∀ (n_4 : Nat) (v_408379 : Int32) (rv_408379 : Rg 0 127 v_408379) (v_408380 : Int32) (rv_408380 : Rg (-1) 6 v_408380) (v_408381 : Int32) (rv_408381 : Rg 0 7 v_408381) (hm_408382 : 7 < (v_408381 : Int32).toInt + (n_4 : Int)), WG p l e { frames := 0, cells := 0, slots := 0, locals := 0 } s m ([.ref x, .int a0] : List Value).toArray below meth c 4 0 0 (MQ below (Qi_ D cy L κ ln R (fun r I2 J2 => I = I2 ∧ J = J2 ∧ Rg (-1) 6 r)) ([.ref x, .int a0] : List Value).toArray s 0 0 (Al_ L)) D cy (Al_ L) s.heap L κ ln R I J 4 [(0, .ref x), (1, .int v_408379), (2, .int v_408380), (3, .int v_408381)] [] := by
    intro n_4
    induction n_4 with
    | zero =>
      intro v_408379 rv_408379 v_408380 rv_408380 v_408381 rv_408381 hm_408382
      exact ms_0 rv_408381 hm_408382
    | succ n_4 ih_4 =>
      intro v_408379 rv_408379 v_408380 rv_408380 v_408381 rv_408381 hm_408382
      have j_45 : ∀ (v_408383 : Int32) (rv_408383 : Rg 0 127 v_408383) (v_408384 : Int32) (rv_408384 : Rg (-1) 6 v_408384) (v_408385 : Int32) (rv_408385 : Rg 0 6 v_408385) (v_408386 : Int32) (rv_408386 : Rg 1 7 v_408386) (q_408387 : I b_408377 5 = v_408386) (hm_408388 : 7 < (v_408385 : Int32).toInt + ((n_4 + 1 : Nat) : Int)), WG p l e { frames := 0, cells := 0, slots := 0, locals := 0 } s m ([.ref x, .int a0] : List Value).toArray below meth c 4 0 0 (MQ below (Qi_ D cy L κ ln R (fun r I2 J2 => I = I2 ∧ J = J2 ∧ Rg (-1) 6 r)) ([.ref x, .int a0] : List Value).toArray s 0 0 (Al_ L)) D cy (Al_ L) s.heap L κ ln R I J 45 [(0, .ref x), (1, .int v_408383), (2, .int v_408384), (3, .int v_408385)] [] := by
        intro v_408383 rv_408383 v_408384 rv_408384 v_408385 rv_408385 v_408386 rv_408386 q_408387 hm_408388
        obtain ⟨x_408389, hx_408389, rx_408389, tx_408389⟩ := ex_add (y := 1) 1 7 rv_408385 rc_1 (by decide) (by decide) (by decide) (by decide)
        refine g_iinc C dX1_leastFed_45 (k := 3) (v := x_408389) rfl hx_408389 (by decide) (lo2 := [(3, .int x_408389), (0, .ref x), (1, .int v_408383), (2, .int v_408384)]) rfl ?_
        refine g_goto C (tgt := 4) dX1_leastFed_48 (by decide) ?_
        refine g_lo (is := [1, 2, 3, 0]) (lo2 := [(0, .ref x), (1, .int v_408383), (2, .int v_408384), (3, .int x_408389)]) rfl ?_
        exact ih_4 v_408383 (rv_408383) v_408384 (rv_408384) x_408389 (rg_w rx_408389 (by decide) (by decide)) (ms_1 hm_408388 (ti_k tx_408389 rc_1) (by decide))
      have j_43 : ∀ (v_408390 : Int32) (rv_408390 : Rg 0 127 v_408390) (v_408391 : Int32) (rv_408391 : Rg (-1) 6 v_408391) (v_408392 : Int32) (rv_408392 : Rg 0 6 v_408392) (v_408393 : Int32) (rv_408393 : Rg 1 7 v_408393) (q_408394 : I b_408377 5 = v_408393) (hm_408395 : 7 < (v_408392 : Int32).toInt + ((n_4 + 1 : Nat) : Int)), WG p l e { frames := 0, cells := 0, slots := 0, locals := 0 } s m ([.ref x, .int a0] : List Value).toArray below meth c 4 0 0 (MQ below (Qi_ D cy L κ ln R (fun r I2 J2 => I = I2 ∧ J = J2 ∧ Rg (-1) 6 r)) ([.ref x, .int a0] : List Value).toArray s 0 0 (Al_ L)) D cy (Al_ L) s.heap L κ ln R I J 43 [(0, .ref x), (1, .int v_408390), (2, .int v_408391), (3, .int v_408392)] [] := by
        intro v_408390 rv_408390 v_408391 rv_408391 v_408392 rv_408392 v_408393 rv_408393 q_408394 hm_408395
        refine g_iload_n C 3 dX1_leastFed_43 rfl rfl ?_
        refine g_istore_n C dX1_leastFed_44 rfl (by decide) (lo2 := [(2, .int v_408392), (0, .ref x), (1, .int v_408390), (3, .int v_408392)]) rfl ?_
        refine g_lo (is := [1, 2, 0, 3]) (lo2 := [(0, .ref x), (1, .int v_408390), (2, .int v_408392), (3, .int v_408392)]) rfl ?_
        exact j_45 v_408390 (rv_408390) v_408392 (rg_w rv_408392 (by decide) (by decide)) v_408392 (rv_408392) v_408393 (rv_408393) q_408394 hm_408395
      refine g_iload_n C 3 dX1_leastFed_4 rfl rfl ?_
      refine g_aload_n C 0 dX1_leastFed_5 rfl rfl ?_
      refine g_getR C K hLx hkx f_1_52 hb_408377 dX1_leastFed_6 ?_
      obtain ⟨x_408396, hx_408396, rx_408396⟩ := ex_get (I := I) (a := b_408377) (j := 5) (lo := 0) (hi := 7) hU hb_408377L (ro_o hb_408377k (by decide)) rfl
      refine g_getI C K hb_408377L hb_408377k f_1_68 (v := x_408396) hx_408396 dX1_leastFed_9 ?_
      refine g_icmp_ge C (tgt := 51) dX1_leastFed_12 (by decide) (fun h_408397 => ?_) (fun h_408397 => ?_)
      · skip
        refine g_iload_n C 2 dX1_leastFed_51 rfl rfl ?_
        exact g_zret (ty := .int) (r := v_408380) B K rfl (rfl) ⟨rfl, rfl, rv_408380⟩ dX1_leastFed_52
      · skip
        have r_408398 := lt_l (hi := 6) (nle h_408397) rv_408381 rx_408396 (by decide)
        have r_408399 := lt_r (lo := 1) (nle h_408397) rv_408381 rx_408396 (by decide)
        refine g_iload_n C 1 dX1_leastFed_15 rfl rfl ?_
        refine g_iload_n C 3 dX1_leastFed_16 rfl rfl ?_
        obtain ⟨x_408400, hx_408400, rx_408400⟩ := ex_shr (x := v_408379) (y := v_408381) (b := 127) (rv_408379)
        refine g_ishr C (v := x_408400) dX1_leastFed_17 hx_408400 ?_
        refine g_iconst C (v := 1) dX1_leastFed_18 (by decide) ?_
        obtain ⟨x_408401, hx_408401, rx_408401⟩ := ex_andr (x := x_408400) (y := 1) (b := 1) (rg_w rc_1 (by decide) (by decide))
        refine g_iand C (v := x_408401) dX1_leastFed_19 hx_408401 ?_
        refine g_if_eq C (tgt := 45) dX1_leastFed_20 (by decide) (fun h_408402 => ?_) (fun h_408402 => ?_)
        · skip
          have r_408403 := (⟨(rx_408401).1, (eq_rg (h_408402) rc_0).2⟩ : Rg 0 0 x_408401)
          refine g_lo (is := [0, 1, 2, 3]) (lo2 := [(0, .ref x), (1, .int v_408379), (2, .int v_408380), (3, .int v_408381)]) rfl ?_
          exact j_45 v_408379 (rv_408379) v_408380 (rv_408380) v_408381 (r_408398) x_408396 (r_408399) hx_408396 hm_408382
        · skip
          have n_408404 : ¬ x_408401 = 0 := h_408402
          have r_408405 := ne_lo (lo := 1) n_408404 rx_408401 rc_0 rfl (by decide)
          refine g_iload_n C 2 dX1_leastFed_23 rfl rfl ?_
          refine g_iconst C (v := (-1)) dX1_leastFed_24 (by decide) ?_
          refine g_icmp_eq C (tgt := 43) dX1_leastFed_25 (by decide) (fun h_408406 => ?_) (fun h_408406 => ?_)
          · skip
            have r_408407 := (⟨(rv_408380).1, (eq_rg (h_408406) rc_m1).2⟩ : Rg (-1) (-1) v_408380)
            refine g_lo (is := [0, 1, 2, 3]) (lo2 := [(0, .ref x), (1, .int v_408379), (2, .int v_408380), (3, .int v_408381)]) rfl ?_
            exact j_43 v_408379 (rv_408379) v_408380 (rg_w r_408407 (by decide) (by decide)) v_408381 (r_408398) x_408396 (r_408399) hx_408396 hm_408382
          · skip
            have n_408408 : ¬ v_408380 = (-1) := h_408406
            have r_408409 := ne_lo (lo := 0) n_408408 rv_408380 rc_m1 rfl (by decide)
            refine g_aload_n C 0 dX1_leastFed_28 rfl rfl ?_
            refine g_getR C K hLx hkx f_1_21 hb_408378 dX1_leastFed_29 ?_
            refine g_iload_n C 3 dX1_leastFed_32 rfl rfl ?_
            obtain ⟨x_408410, hx_408410, rx_408410⟩ := ex_get (I := I) (a := b_408378) (j := v_408381.toNatClampNeg) (lo := (-2147483648)) (hi := 2147483647) hU hb_408378L (ro_a hb_408378k (by decide) hb_408378o hkx rfl) (rfl)
            refine h_iald C K hb_408378L hb_408378k (v := x_408410) (v_408381.toNatClampNeg) (rfl) (ix_0 r_408398 (by decide)) (ix_lt r_408398 (by decide) hb_408378n (by decide)) hx_408410 dX1_leastFed_33 ?_
            refine g_aload_n C 0 dX1_leastFed_34 rfl rfl ?_
            refine g_getR C K hLx hkx f_1_21 hb_408378 dX1_leastFed_35 ?_
            refine g_iload_n C 2 dX1_leastFed_38 rfl rfl ?_
            obtain ⟨x_408411, hx_408411, rx_408411⟩ := ex_get (I := I) (a := b_408378) (j := v_408380.toNatClampNeg) (lo := (-2147483648)) (hi := 2147483647) hU hb_408378L (ro_a hb_408378k (by decide) hb_408378o hkx rfl) (rfl)
            refine h_iald C K hb_408378L hb_408378k (v := x_408411) (v_408380.toNatClampNeg) (rfl) (ix_0 r_408409 (by decide)) (ix_lt r_408409 (by decide) hb_408378n (by decide)) hx_408411 dX1_leastFed_39 ?_
            refine g_icmp_ge C (tgt := 45) dX1_leastFed_40 (by decide) (fun h_408412 => ?_) (fun h_408412 => ?_)
            · skip
              refine g_lo (is := [0, 1, 2, 3]) (lo2 := [(0, .ref x), (1, .int v_408379), (2, .int v_408380), (3, .int v_408381)]) rfl ?_
              exact j_45 v_408379 (rv_408379) v_408380 (rg_w r_408409 (by decide) (by decide)) v_408381 (r_408398) x_408396 (r_408399) hx_408396 hm_408382
            · skip
              have r_408413 := lt_l (hi := 2147483646) (nle h_408412) rx_408410 rx_408411 (by decide)
              have r_408414 := lt_r (lo := (-2147483647)) (nle h_408412) rx_408410 rx_408411 (by decide)
              refine g_lo (is := [0, 1, 2, 3]) (lo2 := [(0, .ref x), (1, .int v_408379), (2, .int v_408380), (3, .int v_408381)]) rfl ?_
              exact j_43 v_408379 (rv_408379) v_408380 (rg_w r_408409 (by decide) (by decide)) v_408381 (r_408398) x_408396 (r_408399) hx_408396 hm_408382
  refine g_iconst C (v := (-1)) dX1_leastFed_0 (by decide) ?_
  refine g_istore_n C dX1_leastFed_1 rfl (by decide) (lo2 := [(2, .int (-1)), (0, .ref x), (1, .int a0)]) rfl ?_
  refine g_iconst C (v := 0) dX1_leastFed_2 (by decide) ?_
  refine g_istore_n C dX1_leastFed_3 rfl (by decide) (lo2 := [(3, .int 0), (2, .int (-1)), (0, .ref x), (1, .int a0)]) rfl ?_
  refine g_lo (is := [2, 3, 1, 0]) (lo2 := [(0, .ref x), (1, .int a0), (2, .int (-1)), (3, .int 0)]) rfl ?_
  exact l_4 8 a0 (ra0) (-1) (rg_w rc_m1 (by decide) (by decide)) 0 (rg_w rc_0 (by decide) (by decide)) (ms_s (a := 0) (b := 7) (N := 8) (rg_w rc_0 (by decide) (by decide)) (by decide))
set_option maxRecDepth 100000 in
set_option maxHeartbeats 8000000 in
theorem c_X8_childrenOf {l : Launch} {D : va_G} {cy : Nat → ClassId} {L : List Nat} {κ ln : Nat → Nat} {R : Nat → Nat → Option Nat} {I : Nat → Nat → Int32} {J : Nat → Nat → Int64} {ow : Nat → Nat × Nat} (W9 : ∀ a ∈ L, Shp L κ ln R ow a) {x : Nat} (hLx : x ∈ L) (hkx : κ x = 8) (a0 : Int32) (ra0 : Rg 0 6 a0) (hU : Uv L κ ow I) : CtI l yX8_childrenOf cX8_childrenOf 4 (some .int) { frames := 0, cells := 0, slots := 0, locals := 0 } D cy L κ ln R I J [.ref x, .int a0] (fun r I2 J2 => I = I2 ∧ J = J2 ∧ Rg 0 127 r) := by
  refine CtI.of (by decide +kernel) (Nat.le_of_ble_eq_true rfl) ?_
  intro p e s m below meth c B K
  have C := B.1
  obtain ⟨b_408502, hb_408502, hb_408502L, hb_408502k, hb_408502n, hb_408502o⟩ := shp_a (W9 x hLx) hkx 2 14 7 rfl (by decide)
  refine g_lo (is := [0, 1]) (lo2 := [(0, .ref x), (1, .int a0)]) rfl ?_
  have l_4 : ∀ (n_4 : Nat) (v_408503 : Int32) (rv_408503 : Rg 0 6 v_408503) (v_408504 : Int32) (rv_408504 : Rg 0 127 v_408504) (v_408505 : Int32) (rv_408505 : Rg 0 7 v_408505) (hm_408506 : 7 < (v_408505 : Int32).toInt + (n_4 : Int)), WG p l e { frames := 0, cells := 0, slots := 0, locals := 0 } s m ([.ref x, .int a0] : List Value).toArray below meth c 4 0 0 (MQ below (Qi_ D cy L κ ln R (fun r I2 J2 => I = I2 ∧ J = J2 ∧ Rg 0 127 r)) ([.ref x, .int a0] : List Value).toArray s 0 0 (Al_ L)) D cy (Al_ L) s.heap L κ ln R I J 4 [(0, .ref x), (1, .int v_408503), (2, .int v_408504), (3, .int v_408505)] [] := by
    intro n_4
    induction n_4 with
    | zero =>
      intro v_408503 rv_408503 v_408504 rv_408504 v_408505 rv_408505 hm_408506
      exact ms_0 rv_408505 hm_408506
    | succ n_4 ih_4 =>
      intro v_408503 rv_408503 v_408504 rv_408504 v_408505 rv_408505 hm_408506
      have j_28 : ∀ (v_408507 : Int32) (rv_408507 : Rg 0 6 v_408507) (v_408508 : Int32) (rv_408508 : Rg 0 127 v_408508) (v_408509 : Int32) (rv_408509 : Rg 0 6 v_408509) (v_408510 : Int32) (rv_408510 : Rg 1 7 v_408510) (q_408511 : I x 5 = v_408510) (hm_408512 : 7 < (v_408509 : Int32).toInt + ((n_4 + 1 : Nat) : Int)), WG p l e { frames := 0, cells := 0, slots := 0, locals := 0 } s m ([.ref x, .int a0] : List Value).toArray below meth c 4 0 0 (MQ below (Qi_ D cy L κ ln R (fun r I2 J2 => I = I2 ∧ J = J2 ∧ Rg 0 127 r)) ([.ref x, .int a0] : List Value).toArray s 0 0 (Al_ L)) D cy (Al_ L) s.heap L κ ln R I J 28 [(0, .ref x), (1, .int v_408507), (2, .int v_408508), (3, .int v_408509)] [] := by
        intro v_408507 rv_408507 v_408508 rv_408508 v_408509 rv_408509 v_408510 rv_408510 q_408511 hm_408512
        obtain ⟨x_408513, hx_408513, rx_408513, tx_408513⟩ := ex_add (y := 1) 1 7 rv_408509 rc_1 (by decide) (by decide) (by decide) (by decide)
        refine g_iinc C dX8_childrenOf_28 (k := 3) (v := x_408513) rfl hx_408513 (by decide) (lo2 := [(3, .int x_408513), (0, .ref x), (1, .int v_408507), (2, .int v_408508)]) rfl ?_
        refine g_goto C (tgt := 4) dX8_childrenOf_31 (by decide) ?_
        refine g_lo (is := [1, 2, 3, 0]) (lo2 := [(0, .ref x), (1, .int v_408507), (2, .int v_408508), (3, .int x_408513)]) rfl ?_
        exact ih_4 v_408507 (rv_408507) v_408508 (rv_408508) x_408513 (rg_w rx_408513 (by decide) (by decide)) (ms_1 hm_408512 (ti_k tx_408513 rc_1) (by decide))
      refine g_iload_n C 3 dX8_childrenOf_4 rfl rfl ?_
      refine g_aload_n C 0 dX8_childrenOf_5 rfl rfl ?_
      obtain ⟨x_408514, hx_408514, rx_408514⟩ := ex_get (I := I) (a := x) (j := 5) (lo := 0) (hi := 7) hU hLx (ro_o hkx (by decide)) rfl
      refine g_getI C K hLx hkx f_8_28 (v := x_408514) hx_408514 dX8_childrenOf_6 ?_
      refine g_icmp_ge C (tgt := 34) dX8_childrenOf_9 (by decide) (fun h_408515 => ?_) (fun h_408515 => ?_)
      · skip
        refine g_iload_n C 2 dX8_childrenOf_34 rfl rfl ?_
        exact g_zret (ty := .int) (r := v_408504) B K rfl (rfl) ⟨rfl, rfl, rv_408504⟩ dX8_childrenOf_35
      · skip
        have r_408516 := lt_l (hi := 6) (nle h_408515) rv_408505 rx_408514 (by decide)
        have r_408517 := lt_r (lo := 1) (nle h_408515) rv_408505 rx_408514 (by decide)
        refine g_aload_n C 0 dX8_childrenOf_12 rfl rfl ?_
        refine g_getR C K hLx hkx f_8_19 hb_408502 dX8_childrenOf_13 ?_
        refine g_iload_n C 3 dX8_childrenOf_16 rfl rfl ?_
        obtain ⟨x_408518, hx_408518, rx_408518⟩ := ex_get (I := I) (a := b_408502) (j := v_408505.toNatClampNeg) (lo := (-1)) (hi := 6) hU hb_408502L (ro_a hb_408502k (by decide) hb_408502o hkx rfl) (rfl)
        refine h_iald C K hb_408502L hb_408502k (v := x_408518) (v_408505.toNatClampNeg) (rfl) (ix_0 r_408516 (by decide)) (ix_lt r_408516 (by decide) hb_408502n (by decide)) hx_408518 dX8_childrenOf_17 ?_
        refine g_iload_n C 1 dX8_childrenOf_18 rfl rfl ?_
        refine g_icmp_ne C (tgt := 28) dX8_childrenOf_19 (by decide) (fun h_408519 => ?_) (fun h_408519 => ?_)
        · skip
          refine g_lo (is := [0, 1, 2, 3]) (lo2 := [(0, .ref x), (1, .int v_408503), (2, .int v_408504), (3, .int v_408505)]) rfl ?_
          exact j_28 v_408503 (rv_408503) v_408504 (rv_408504) v_408505 (r_408516) x_408514 (r_408517) hx_408514 hm_408506
        · skip
          have r_408520 := (⟨(eq_rg (h_408519) rv_408503).1, (rx_408518).2⟩ : Rg 0 6 x_408518)
          refine g_iload_n C 2 dX8_childrenOf_22 rfl rfl ?_
          refine g_iconst C (v := 1) dX8_childrenOf_23 (by decide) ?_
          refine g_iload_n C 3 dX8_childrenOf_24 rfl rfl ?_
          obtain ⟨x_408521, hx_408521, rx_408521⟩ := ex_shl (x := 1) (y := v_408505) 6 64 rfl (r_408516) (by decide)
          refine g_ishl C (v := x_408521) dX8_childrenOf_25 hx_408521 ?_
          obtain ⟨x_408522, hx_408522, rx_408522⟩ := ex_or 7 (x := v_408504) (y := x_408521) (b := 127) (c := 64) (rv_408504) (rg_w rx_408521 (by decide) (by decide)) (by decide) (by decide) (by decide) 127 (by decide)
          refine g_ior C (v := x_408522) dX8_childrenOf_26 hx_408522 ?_
          refine g_istore_n C dX8_childrenOf_27 rfl (by decide) (lo2 := [(2, .int x_408522), (0, .ref x), (1, .int v_408503), (3, .int v_408505)]) rfl ?_
          refine g_lo (is := [1, 2, 0, 3]) (lo2 := [(0, .ref x), (1, .int v_408503), (2, .int x_408522), (3, .int v_408505)]) rfl ?_
          exact j_28 v_408503 (rv_408503) x_408522 (rx_408522) v_408505 (r_408516) x_408514 (r_408517) hx_408514 hm_408506
  refine g_iconst C (v := 0) dX8_childrenOf_0 (by decide) ?_
  refine g_istore_n C dX8_childrenOf_1 rfl (by decide) (lo2 := [(2, .int 0), (0, .ref x), (1, .int a0)]) rfl ?_
  refine g_iconst C (v := 0) dX8_childrenOf_2 (by decide) ?_
  refine g_istore_n C dX8_childrenOf_3 rfl (by decide) (lo2 := [(3, .int 0), (2, .int 0), (0, .ref x), (1, .int a0)]) rfl ?_
  refine g_lo (is := [2, 3, 1, 0]) (lo2 := [(0, .ref x), (1, .int a0), (2, .int 0), (3, .int 0)]) rfl ?_
  exact l_4 8 a0 (ra0) 0 (rg_w rc_0 (by decide) (by decide)) 0 (rg_w rc_0 (by decide) (by decide)) (ms_s (a := 0) (b := 7) (N := 8) (rg_w rc_0 (by decide) (by decide)) (by decide))
set_option maxRecDepth 100000 in
set_option maxHeartbeats 8000000 in
theorem c_X1_heirOf {l : Launch} {D : va_G} {cy : Nat → ClassId} {L : List Nat} {κ ln : Nat → Nat} {R : Nat → Nat → Option Nat} {I : Nat → Nat → Int32} {J : Nat → Nat → Int64} {ow : Nat → Nat × Nat} (W9 : ∀ a ∈ L, Shp L κ ln R ow a) {x : Nat} (hLx : x ∈ L) (hkx : κ x = 1) (a0 : Int32) (a1 : Int32) (ra0 : Rg 0 6 a0) (hU : Uv L κ ow I) : CtI l yX1_heirOf cX1_heirOf 5 (some .int) { frames := 1, cells := 0, slots := 0, locals := 24 } D cy L κ ln R I J [.ref x, .int a0, .int a1] (fun r I2 J2 => I = I2 ∧ J = J2 ∧ Rg (-1) 6 r) := by
  refine CtI.of (by decide +kernel) (Nat.le_of_ble_eq_true rfl) ?_
  intro p e s m below meth c B K
  have C := B.1
  obtain ⟨b_408615, hb_408615, hb_408615L, hb_408615k⟩ := shp_o (W9 x hLx) hkx 0 8 rfl (by decide)
  refine g_lo (is := [0, 1, 2]) (lo2 := [(0, .ref x), (1, .int a0), (2, .int a1)]) rfl ?_
  refine g_aload_n C 0 dX1_heirOf_0 rfl rfl ?_
  refine g_getR C K hLx hkx f_1_52 hb_408615 dX1_heirOf_1 ?_
  refine g_callVI C K (c_X8_everybody W9 hb_408615L hb_408615k   hU) hb_408615L hb_408615k (by decide) rfl v_1_62 rfl ⟨rfl, rfl⟩ ⟨Nat.le_of_ble_eq_true rfl, Nat.le_of_ble_eq_true rfl⟩ (Nat.le_of_ble_eq_true rfl) ⟨Nat.le_of_ble_eq_true rfl, Nat.le_of_ble_eq_true rfl⟩ dX1_heirOf_4 rfl (st := []) (fun x_408616 I_408617 J_408618 h_408619 => ?_)
  obtain ⟨rfl, rfl, rx_408616⟩ := h_408619
  refine g_aload_n C 0 dX1_heirOf_7 rfl rfl ?_
  obtain ⟨x_408620, hx_408620, rx_408620⟩ := ex_get (I := I) (a := x) (j := 7) (lo := (-2147483648)) (hi := 2147483647) hU hLx (ro_o hkx (by decide)) rfl
  refine g_getI C K hLx hkx f_1_30 (v := x_408620) hx_408620 dX1_heirOf_8 ?_
  refine g_iconst C (v := (-1)) dX1_heirOf_11 (by decide) ?_
  obtain ⟨x_408621, hx_408621, rx_408621⟩ := ex_any (z0 := x_408620 ^^^ (-1))
  refine g_ixor C (v := x_408621) dX1_heirOf_12 hx_408621 ?_
  obtain ⟨x_408622, hx_408622, rx_408622⟩ := ex_andl (x := x_408616) (y := x_408621) (b := 127) (rx_408616)
  refine g_iand C (v := x_408622) dX1_heirOf_13 hx_408622 ?_
  refine g_iload_n C 2 dX1_heirOf_14 rfl rfl ?_
  refine g_iconst C (v := (-1)) dX1_heirOf_15 (by decide) ?_
  obtain ⟨x_408623, hx_408623, rx_408623⟩ := ex_any (z0 := a1 ^^^ (-1))
  refine g_ixor C (v := x_408623) dX1_heirOf_16 hx_408623 ?_
  obtain ⟨x_408624, hx_408624, rx_408624⟩ := ex_andl (x := x_408622) (y := x_408623) (b := 127) (rx_408622)
  refine g_iand C (v := x_408624) dX1_heirOf_17 hx_408624 ?_
  refine g_iconst C (v := 1) dX1_heirOf_18 (by decide) ?_
  refine g_iload_n C 1 dX1_heirOf_19 rfl rfl ?_
  obtain ⟨x_408625, hx_408625, rx_408625⟩ := ex_shl (x := 1) (y := a0) 6 64 rfl (ra0) (by decide)
  refine g_ishl C (v := x_408625) dX1_heirOf_20 hx_408625 ?_
  refine g_iconst C (v := (-1)) dX1_heirOf_21 (by decide) ?_
  obtain ⟨x_408626, hx_408626, rx_408626⟩ := ex_any (z0 := x_408625 ^^^ (-1))
  refine g_ixor C (v := x_408626) dX1_heirOf_22 hx_408626 ?_
  obtain ⟨x_408627, hx_408627, rx_408627⟩ := ex_andl (x := x_408624) (y := x_408626) (b := 127) (rx_408624)
  refine g_iand C (v := x_408627) dX1_heirOf_23 hx_408627 ?_
  refine g_istore_n C dX1_heirOf_24 rfl (by decide) (lo2 := [(3, .int x_408627), (0, .ref x), (1, .int a0), (2, .int a1)]) rfl ?_
  refine g_aload_n C 1 dX1_heirOf_25 rfl rfl ?_
  refine g_getR C K hLx hkx f_1_52 hb_408615 dX1_heirOf_26 ?_
  obtain ⟨x_408628, hx_408628, rx_408628⟩ := ex_get (I := I) (a := b_408615) (j := 7) (lo := (-2147483648)) (hi := 2147483647) hU hb_408615L (ro_o hb_408615k (by decide)) rfl
  refine g_getI C K hb_408615L hb_408615k f_1_78 (v := x_408628) hx_408628 dX1_heirOf_29 ?_
  refine g_iconst C (v := 2) dX1_heirOf_32 (by decide) ?_
  refine g_icmp_ne C (tgt := 42) dX1_heirOf_33 (by decide) (fun h_408629 => ?_) (fun h_408629 => ?_)
  · skip
    have n_408630 : ¬ x_408628 = 2 := h_408629
    refine g_aload_n C 1 dX1_heirOf_42 rfl rfl ?_
    refine g_getR C K hLx hkx f_1_52 hb_408615 dX1_heirOf_43 ?_
    refine g_getI C K hb_408615L hb_408615k f_1_78 (v := x_408628) hx_408628 dX1_heirOf_46 ?_
    refine g_iconst C (v := 1) dX1_heirOf_49 (by decide) ?_
    refine g_icmp_ne C (tgt := 66) dX1_heirOf_50 (by decide) (fun h_408631 => ?_) (fun h_408631 => ?_)
    · skip
      have n_408632 : ¬ x_408628 = 1 := h_408631
      refine g_iconst C (v := 0) dX1_heirOf_66 (by decide) ?_
      refine g_istore C dX1_heirOf_67 (by decide) (lo2 := [(4, .int 0), (3, .int x_408627), (0, .ref x), (1, .int a0), (2, .int a1)]) rfl ?_
      refine g_aload_n C 2 dX1_heirOf_69 rfl rfl ?_
      refine g_iload_n C 3 dX1_heirOf_70 rfl rfl ?_
      refine g_iload C 0 dX1_heirOf_71 rfl ?_
      refine g_if_eq C (tgt := 81) dX1_heirOf_73 (by decide) (fun h_408633 => ?_) (fun h_408633 => ?_)
      · skip
        refine g_iload_n C 1 dX1_heirOf_81 rfl rfl ?_
        refine g_callVI C K (c_X1_firstBehind W9 hLx hkx a0 x_408627 (ra0) (rx_408627) hU) hLx hkx (by decide) rfl v_1_88 rfl ⟨rfl, rfl⟩ ⟨Nat.le_of_ble_eq_true rfl, Nat.le_of_ble_eq_true rfl⟩ (Nat.le_of_ble_eq_true rfl) ⟨Nat.le_of_ble_eq_true rfl, Nat.le_of_ble_eq_true rfl⟩ dX1_heirOf_82 rfl (st := []) (fun x_408634 I_408635 J_408636 h_408637 => ?_)
        obtain ⟨rfl, rfl, rx_408634⟩ := h_408637
        exact g_zret (ty := .int) (r := x_408634) B K rfl (rfl) ⟨rfl, rfl, rx_408634⟩ dX1_heirOf_85
      · skip
        exact absurd h_408633 (by decide)
    · skip
      have r_408638 := (⟨(eq_rg (h_408631) rc_1).1, (eq_rg (h_408631) rc_1).2⟩ : Rg 1 1 x_408628)
      refine g_iload_n C 0 dX1_heirOf_53 rfl rfl ?_
      refine g_aload_n C 1 dX1_heirOf_54 rfl rfl ?_
      refine g_getR C K hLx hkx f_1_52 hb_408615 dX1_heirOf_55 ?_
      refine g_iload_n C 2 dX1_heirOf_58 rfl rfl ?_
      refine g_callVI C K (c_X8_childrenOf W9 hb_408615L hb_408615k a0 (ra0) hU) hb_408615L hb_408615k (by decide) rfl v_1_85 rfl ⟨rfl, rfl⟩ ⟨Nat.le_of_ble_eq_true rfl, Nat.le_of_ble_eq_true rfl⟩ (Nat.le_of_ble_eq_true rfl) ⟨Nat.le_of_ble_eq_true rfl, Nat.le_of_ble_eq_true rfl⟩ dX1_heirOf_59 rfl (st := [.int x_408627]) (fun x_408639 I_408640 J_408641 h_408642 => ?_)
      obtain ⟨rfl, rfl, rx_408639⟩ := h_408642
      obtain ⟨x_408643, hx_408643, rx_408643⟩ := ex_andl (x := x_408627) (y := x_408639) (b := 127) (rx_408627)
      refine g_iand C (v := x_408643) dX1_heirOf_62 hx_408643 ?_
      refine g_goto C (tgt := 67) dX1_heirOf_63 (by decide) ?_
      refine g_istore C dX1_heirOf_67 (by decide) (lo2 := [(4, .int x_408643), (3, .int x_408627), (0, .ref x), (1, .int a0), (2, .int a1)]) rfl ?_
      refine g_aload_n C 2 dX1_heirOf_69 rfl rfl ?_
      refine g_iload_n C 3 dX1_heirOf_70 rfl rfl ?_
      refine g_iload C 0 dX1_heirOf_71 rfl ?_
      refine g_if_eq C (tgt := 81) dX1_heirOf_73 (by decide) (fun h_408644 => ?_) (fun h_408644 => ?_)
      · skip
        have r_408645 := (⟨(rx_408643).1, (eq_rg (h_408644) rc_0).2⟩ : Rg 0 0 x_408643)
        refine g_iload_n C 1 dX1_heirOf_81 rfl rfl ?_
        refine g_callVI C K (c_X1_firstBehind W9 hLx hkx a0 x_408627 (ra0) (rx_408627) hU) hLx hkx (by decide) rfl v_1_88 rfl ⟨rfl, rfl⟩ ⟨Nat.le_of_ble_eq_true rfl, Nat.le_of_ble_eq_true rfl⟩ (Nat.le_of_ble_eq_true rfl) ⟨Nat.le_of_ble_eq_true rfl, Nat.le_of_ble_eq_true rfl⟩ dX1_heirOf_82 rfl (st := []) (fun x_408646 I_408647 J_408648 h_408649 => ?_)
        obtain ⟨rfl, rfl, rx_408646⟩ := h_408649
        exact g_zret (ty := .int) (r := x_408646) B K rfl (rfl) ⟨rfl, rfl, rx_408646⟩ dX1_heirOf_85
      · skip
        have n_408650 : ¬ x_408643 = 0 := h_408644
        have r_408651 := ne_lo (lo := 1) n_408650 rx_408643 rc_0 rfl (by decide)
        refine g_iload C 0 dX1_heirOf_76 rfl ?_
        refine g_goto C (tgt := 82) dX1_heirOf_78 (by decide) ?_
        refine g_callVI C K (c_X1_firstBehind W9 hLx hkx a0 x_408643 (ra0) (rg_w r_408651 (by decide) (by decide)) hU) hLx hkx (by decide) rfl v_1_88 rfl ⟨rfl, rfl⟩ ⟨Nat.le_of_ble_eq_true rfl, Nat.le_of_ble_eq_true rfl⟩ (Nat.le_of_ble_eq_true rfl) ⟨Nat.le_of_ble_eq_true rfl, Nat.le_of_ble_eq_true rfl⟩ dX1_heirOf_82 rfl (st := []) (fun x_408652 I_408653 J_408654 h_408655 => ?_)
        obtain ⟨rfl, rfl, rx_408652⟩ := h_408655
        exact g_zret (ty := .int) (r := x_408652) B K rfl (rfl) ⟨rfl, rfl, rx_408652⟩ dX1_heirOf_85
  · skip
    have r_408656 := (⟨(eq_rg (h_408629) rc_2).1, (eq_rg (h_408629) rc_2).2⟩ : Rg 2 2 x_408628)
    refine g_aload_n C 1 dX1_heirOf_36 rfl rfl ?_
    refine g_iload_n C 0 dX1_heirOf_37 rfl rfl ?_
    refine g_callVI C K (c_X1_leastFed W9 hLx hkx x_408627 (rx_408627) hU) hLx hkx (by decide) rfl v_1_81 rfl ⟨rfl, rfl⟩ ⟨Nat.le_of_ble_eq_true rfl, Nat.le_of_ble_eq_true rfl⟩ (Nat.le_of_ble_eq_true rfl) ⟨Nat.le_of_ble_eq_true rfl, Nat.le_of_ble_eq_true rfl⟩ dX1_heirOf_38 rfl (st := []) (fun x_408657 I_408658 J_408659 h_408660 => ?_)
    obtain ⟨rfl, rfl, rx_408657⟩ := h_408660
    exact g_zret (ty := .int) (r := x_408657) B K rfl (rfl) ⟨rfl, rfl, rx_408657⟩ dX1_heirOf_41
set_option maxRecDepth 100000 in
set_option maxHeartbeats 8000000 in
theorem c_X11_heir {l : Launch} {D : va_G} {cy : Nat → ClassId} {L : List Nat} {κ ln : Nat → Nat} {R : Nat → Nat → Option Nat} {I : Nat → Nat → Int32} {J : Nat → Nat → Int64} {ow : Nat → Nat × Nat} (W9 : ∀ a ∈ L, Shp L κ ln R ow a) {x : Nat} (hLx : x ∈ L) (hkx : κ x = 11) (a0 : Int32) (hU : Uv L κ ow I) : CtI l yX11_heir cX11_heir 2 (some .int) { frames := 2, cells := 0, slots := 0, locals := 48 } D cy L κ ln R I J [.ref x, .int a0] (fun r I2 J2 => I = I2 ∧ J = J2 ∧ Rg (-1) 6 r) := by
  refine CtI.of (by decide +kernel) (Nat.le_of_ble_eq_true rfl) ?_
  intro p e s m below meth c B K
  have C := B.1
  obtain ⟨b_408693, hb_408693, hb_408693L, hb_408693k⟩ := shp_o (W9 x hLx) hkx 1 8 rfl (by decide)
  obtain ⟨b_408694, hb_408694, hb_408694L, hb_408694k⟩ := shp_o (W9 x hLx) hkx 2 1 rfl (by decide)
  refine g_lo (is := [0, 1]) (lo2 := [(0, .ref x), (1, .int a0)]) rfl ?_
  refine g_aload_n C 0 dX11_heir_0 rfl rfl ?_
  refine g_getR C K hLx hkx f_11_19 hb_408693 dX11_heir_1 ?_
  refine g_iload_n C 1 dX11_heir_4 rfl rfl ?_
  refine g_callVI C K (c_X8_hasPerson W9 hb_408693L hb_408693k a0  hU) hb_408693L hb_408693k (by decide) rfl v_11_133 rfl ⟨rfl, rfl⟩ ⟨Nat.le_of_ble_eq_true rfl, Nat.le_of_ble_eq_true rfl⟩ (Nat.le_of_ble_eq_true rfl) ⟨Nat.le_of_ble_eq_true rfl, Nat.le_of_ble_eq_true rfl⟩ dX11_heir_5 rfl (st := []) (fun x_408695 I_408696 J_408697 h_408698 => ?_)
  obtain ⟨rfl, rfl, rx_408695, ex_408695⟩ := h_408698
  refine g_if_eq C (tgt := 29) dX11_heir_8 (by decide) (fun h_408699 => ?_) (fun h_408699 => ?_)
  · skip
    have r_408700 := (⟨(rx_408695).1, (eq_rg (h_408699) rc_0).2⟩ : Rg 0 0 x_408695)
    refine g_iconst C (v := (-1)) dX11_heir_29 (by decide) ?_
    exact g_zret (ty := .int) (r := (-1)) B K rfl (rfl) ⟨rfl, rfl, rg_w rc_m1 (by decide) (by decide)⟩ dX11_heir_30
  · skip
    have n_408701 : ¬ x_408695 = 0 := h_408699
    have r_408702 := ne_lo (lo := 1) n_408701 rx_408695 rc_0 rfl (by decide)
    have r_408703 := rg_i (rg_all a0) ((ex_408695) (rg_nz r_408702 (by decide))) (lo := 0) (hi := 6) (by decide) (by decide)
    refine g_aload_n C 0 dX11_heir_11 rfl rfl ?_
    refine g_getR C K hLx hkx f_11_28 hb_408694 dX11_heir_12 ?_
    refine g_iload_n C 1 dX11_heir_15 rfl rfl ?_
    refine g_aload_n C 0 dX11_heir_16 rfl rfl ?_
    refine g_getR C K hLx hkx f_11_28 hb_408694 dX11_heir_17 ?_
    obtain ⟨x_408704, hx_408704, rx_408704⟩ := ex_get (I := I) (a := b_408694) (j := 8) (lo := (-2147483648)) (hi := 2147483647) hU hb_408694L (ro_o hb_408694k (by decide)) rfl
    refine g_getI C K hb_408694L hb_408694k f_11_154 (v := x_408704) hx_408704 dX11_heir_20 ?_
    refine g_callVI C K (c_X1_heirOf W9 hb_408694L hb_408694k a0 x_408704 (r_408703) hU) hb_408694L hb_408694k (by decide) rfl v_11_263 rfl ⟨rfl, rfl⟩ ⟨Nat.le_of_ble_eq_true rfl, Nat.le_of_ble_eq_true rfl⟩ (Nat.le_of_ble_eq_true rfl) ⟨Nat.le_of_ble_eq_true rfl, Nat.le_of_ble_eq_true rfl⟩ dX11_heir_23 rfl (st := []) (fun x_408705 I_408706 J_408707 h_408708 => ?_)
    obtain ⟨rfl, rfl, rx_408705⟩ := h_408708
    refine g_goto C (tgt := 30) dX11_heir_26 (by decide) ?_
    exact g_zret (ty := .int) (r := x_408705) B K rfl (rfl) ⟨rfl, rfl, rx_408705⟩ dX11_heir_30
set_option maxRecDepth 100000 in
set_option maxHeartbeats 8000000 in
theorem c_X11_line {l : Launch} {D : va_G} {cy : Nat → ClassId} {L : List Nat} {κ ln : Nat → Nat} {R : Nat → Nat → Option Nat} {I : Nat → Nat → Int32} {J : Nat → Nat → Int64} {ow : Nat → Nat × Nat} (W9 : ∀ a ∈ L, Shp L κ ln R ow a) {x : Nat} (hLx : x ∈ L) (hkx : κ x = 11) (a0 : Int32) (a1 : Int32) (hU : Uv L κ ow I) : CtI l yX11_line cX11_line 6 (some .int) { frames := 2, cells := 0, slots := 0, locals := 48 } D cy L κ ln R I J [.ref x, .int a0, .int a1] (fun r I2 J2 => I = I2 ∧ J = J2 ∧ Rg (-1) 6 r) := by
  refine CtI.of (by decide +kernel) (Nat.le_of_ble_eq_true rfl) ?_
  intro p e s m below meth c B K
  have C := B.1
  obtain ⟨b_408864, hb_408864, hb_408864L, hb_408864k⟩ := shp_o (W9 x hLx) hkx 1 8 rfl (by decide)
  obtain ⟨b_408865, hb_408865, hb_408865L, hb_408865k⟩ := shp_o (W9 x hLx) hkx 2 1 rfl (by decide)
  refine g_lo (is := [0, 1, 2]) (lo2 := [(0, .ref x), (1, .int a0), (2, .int a1)]) rfl ?_
  have l_45 : ∀ (n_45 : Nat) (v_408866 : Int32) (rv_408866 : Rg 0 6 v_408866) (v_408867 : Int32) (rv_408867 : Rg 0 6 v_408867) (v_408868 : Int32) (v_408869 : Int32) (rv_408869 : Rg (-1) 6 v_408869) (v_408870 : Int32) (rv_408870 : Rg 0 6 v_408870) (v_408871 : Int32) (q_408872 : I b_408865 8 = v_408871) (hm_408873 : 6 < (v_408870 : Int32).toInt + (n_45 : Int)), WG p l e { frames := 2, cells := 0, slots := 0, locals := 48 } s m ([.ref x, .int a0, .int a1] : List Value).toArray below meth c 6 0 0 (MQ below (Qi_ D cy L κ ln R (fun r I2 J2 => I = I2 ∧ J = J2 ∧ Rg (-1) 6 r)) ([.ref x, .int a0, .int a1] : List Value).toArray s 0 0 (Al_ L)) D cy (Al_ L) s.heap L κ ln R I J 45 [(0, .ref x), (1, .int v_408866), (2, .int v_408867), (3, .int v_408868), (4, .int v_408869), (5, .int v_408870)] [] := by
    intro n_45
    induction n_45 with
    | zero =>
      intro v_408866 rv_408866 v_408867 rv_408867 v_408868 v_408869 rv_408869 v_408870 rv_408870 v_408871 q_408872 hm_408873
      exact ms_0 rv_408870 hm_408873
    | succ n_45 ih_45 =>
      intro v_408866 rv_408866 v_408867 rv_408867 v_408868 v_408869 rv_408869 v_408870 rv_408870 v_408871 q_408872 hm_408873
      refine g_iload C 5 dX11_line_45 rfl ?_
      refine g_iload_n C 2 dX11_line_47 rfl rfl ?_
      refine g_icmp_ge C (tgt := 81) dX11_line_48 (by decide) (fun h_408874 => ?_) (fun h_408874 => ?_)
      · skip
        refine g_iload C 4 dX11_line_81 rfl ?_
        exact g_zret (ty := .int) (r := v_408869) B K rfl (rfl) ⟨rfl, rfl, rv_408869⟩ dX11_line_83
      · skip
        have r_408875 := lt_l (hi := 5) (nle h_408874) rv_408870 rv_408867 (by decide)
        have r_408876 := lt_r (lo := 1) (nle h_408874) rv_408870 rv_408867 (by decide)
        refine g_iload C 4 dX11_line_51 rfl ?_
        refine g_iconst C (v := (-1)) dX11_line_53 (by decide) ?_
        refine g_icmp_eq C (tgt := 81) dX11_line_54 (by decide) (fun h_408877 => ?_) (fun h_408877 => ?_)
        · skip
          have r_408878 := (⟨(rv_408869).1, (eq_rg (h_408877) rc_m1).2⟩ : Rg (-1) (-1) v_408869)
          refine g_iload C 4 dX11_line_81 rfl ?_
          exact g_zret (ty := .int) (r := v_408869) B K rfl (rfl) ⟨rfl, rfl, rg_w r_408878 (by decide) (by decide)⟩ dX11_line_83
        · skip
          have n_408879 : ¬ v_408869 = (-1) := h_408877
          have r_408880 := ne_lo (lo := 0) n_408879 rv_408869 rc_m1 rfl (by decide)
          refine g_iload_n C 3 dX11_line_57 rfl rfl ?_
          refine g_iconst C (v := 1) dX11_line_58 (by decide) ?_
          refine g_iload C 4 dX11_line_59 rfl ?_
          obtain ⟨x_408881, hx_408881, rx_408881⟩ := ex_shl (x := 1) (y := v_408869) 6 64 rfl (r_408880) (by decide)
          refine g_ishl C (v := x_408881) dX11_line_61 hx_408881 ?_
          obtain ⟨x_408882, hx_408882, rx_408882⟩ := ex_any (z0 := v_408868 ||| x_408881)
          refine g_ior C (v := x_408882) dX11_line_62 hx_408882 ?_
          refine g_istore_n C dX11_line_63 rfl (by decide) (lo2 := [(3, .int x_408882), (0, .ref x), (1, .int v_408866), (2, .int v_408867), (4, .int v_408869), (5, .int v_408870)]) rfl ?_
          refine g_aload_n C 1 dX11_line_64 rfl rfl ?_
          refine g_getR C K hLx hkx f_11_28 hb_408865 dX11_line_65 ?_
          refine g_iload_n C 2 dX11_line_68 rfl rfl ?_
          refine g_iload_n C 0 dX11_line_69 rfl rfl ?_
          refine g_callVI C K (c_X1_heirOf W9 hb_408865L hb_408865k v_408866 x_408882 (rv_408866) hU) hb_408865L hb_408865k (by decide) rfl v_11_263 rfl ⟨rfl, rfl⟩ ⟨Nat.le_of_ble_eq_true rfl, Nat.le_of_ble_eq_true rfl⟩ (Nat.le_of_ble_eq_true rfl) ⟨Nat.le_of_ble_eq_true rfl, Nat.le_of_ble_eq_true rfl⟩ dX11_line_70 rfl (st := []) (fun x_408883 I_408884 J_408885 h_408886 => ?_)
          obtain ⟨rfl, rfl, rx_408883⟩ := h_408886
          refine g_istore C dX11_line_73 (by decide) (lo2 := [(4, .int x_408883), (3, .int x_408882), (0, .ref x), (1, .int v_408866), (2, .int v_408867), (5, .int v_408870)]) rfl ?_
          obtain ⟨x_408887, hx_408887, rx_408887, tx_408887⟩ := ex_add (y := 1) 1 6 r_408875 rc_1 (by decide) (by decide) (by decide) (by decide)
          refine g_iinc C dX11_line_75 (k := 5) (v := x_408887) rfl hx_408887 (by decide) (lo2 := [(5, .int x_408887), (4, .int x_408883), (3, .int x_408882), (0, .ref x), (1, .int v_408866), (2, .int v_408867)]) rfl ?_
          refine g_goto C (tgt := 45) dX11_line_78 (by decide) ?_
          refine g_lo (is := [3, 4, 5, 2, 1, 0]) (lo2 := [(0, .ref x), (1, .int v_408866), (2, .int v_408867), (3, .int x_408882), (4, .int x_408883), (5, .int x_408887)]) rfl ?_
          exact ih_45 v_408866 (rv_408866) v_408867 (rg_w r_408876 (by decide) (by decide)) x_408882 x_408883 (rx_408883) x_408887 (rg_w rx_408887 (by decide) (by decide)) v_408871 q_408872 (ms_1 hm_408873 (ti_k tx_408887 rc_1) (by decide))
  refine g_aload_n C 0 dX11_line_0 rfl rfl ?_
  refine g_getR C K hLx hkx f_11_19 hb_408864 dX11_line_1 ?_
  refine g_iload_n C 1 dX11_line_4 rfl rfl ?_
  refine g_callVI C K (c_X8_hasPerson W9 hb_408864L hb_408864k a0  hU) hb_408864L hb_408864k (by decide) rfl v_11_133 rfl ⟨rfl, rfl⟩ ⟨Nat.le_of_ble_eq_true rfl, Nat.le_of_ble_eq_true rfl⟩ (Nat.le_of_ble_eq_true rfl) ⟨Nat.le_of_ble_eq_true rfl, Nat.le_of_ble_eq_true rfl⟩ dX11_line_5 rfl (st := []) (fun x_408888 I_408889 J_408890 h_408891 => ?_)
  obtain ⟨rfl, rfl, rx_408888, ex_408888⟩ := h_408891
  refine g_if_eq C (tgt := 21) dX11_line_8 (by decide) (fun h_408892 => ?_) (fun h_408892 => ?_)
  · skip
    have r_408893 := (⟨(rx_408888).1, (eq_rg (h_408892) rc_0).2⟩ : Rg 0 0 x_408888)
    refine g_iconst C (v := (-1)) dX11_line_21 (by decide) ?_
    exact g_zret (ty := .int) (r := (-1)) B K rfl (rfl) ⟨rfl, rfl, rg_w rc_m1 (by decide) (by decide)⟩ dX11_line_22
  · skip
    have n_408894 : ¬ x_408888 = 0 := h_408892
    have r_408895 := ne_lo (lo := 1) n_408894 rx_408888 rc_0 rfl (by decide)
    have r_408896 := rg_i (rg_all a0) ((ex_408888) (rg_nz r_408895 (by decide))) (lo := 0) (hi := 6) (by decide) (by decide)
    refine g_iload_n C 2 dX11_line_11 rfl rfl ?_
    refine g_if_lt C (tgt := 21) dX11_line_12 (by decide) (fun h_408897 => ?_) (fun h_408897 => ?_)
    · skip
      have r_408898 := lt_l (hi := (-1)) (h_408897) (rg_all a1) rc_0 (by decide)
      refine g_iconst C (v := (-1)) dX11_line_21 (by decide) ?_
      exact g_zret (ty := .int) (r := (-1)) B K rfl (rfl) ⟨rfl, rfl, rg_w rc_m1 (by decide) (by decide)⟩ dX11_line_22
    · skip
      have r_408899 := le_r (nlt h_408897) rc_0 (rg_all a1)
      refine g_iload_n C 2 dX11_line_15 rfl rfl ?_
      refine g_bipush C (v := 7) dX11_line_16 (by decide) ?_
      refine g_icmp_lt C (tgt := 23) dX11_line_18 (by decide) (fun h_408900 => ?_) (fun h_408900 => ?_)
      · skip
        have r_408901 := lt_l (hi := 6) (h_408900) r_408899 rc_7 (by decide)
        refine g_aload_n C 0 dX11_line_23 rfl rfl ?_
        refine g_getR C K hLx hkx f_11_28 hb_408865 dX11_line_24 ?_
        obtain ⟨x_408902, hx_408902, rx_408902⟩ := ex_get (I := I) (a := b_408865) (j := 8) (lo := (-2147483648)) (hi := 2147483647) hU hb_408865L (ro_o hb_408865k (by decide)) rfl
        refine g_getI C K hb_408865L hb_408865k f_11_154 (v := x_408902) hx_408902 dX11_line_27 ?_
        refine g_istore_n C dX11_line_30 rfl (by decide) (lo2 := [(3, .int x_408902), (0, .ref x), (1, .int a0), (2, .int a1)]) rfl ?_
        refine g_aload_n C 1 dX11_line_31 rfl rfl ?_
        refine g_getR C K hLx hkx f_11_28 hb_408865 dX11_line_32 ?_
        refine g_iload_n C 2 dX11_line_35 rfl rfl ?_
        refine g_iload_n C 0 dX11_line_36 rfl rfl ?_
        refine g_callVI C K (c_X1_heirOf W9 hb_408865L hb_408865k a0 x_408902 (r_408896) hU) hb_408865L hb_408865k (by decide) rfl v_11_263 rfl ⟨rfl, rfl⟩ ⟨Nat.le_of_ble_eq_true rfl, Nat.le_of_ble_eq_true rfl⟩ (Nat.le_of_ble_eq_true rfl) ⟨Nat.le_of_ble_eq_true rfl, Nat.le_of_ble_eq_true rfl⟩ dX11_line_37 rfl (st := []) (fun x_408903 I_408904 J_408905 h_408906 => ?_)
        obtain ⟨rfl, rfl, rx_408903⟩ := h_408906
        refine g_istore C dX11_line_40 (by decide) (lo2 := [(4, .int x_408903), (3, .int x_408902), (0, .ref x), (1, .int a0), (2, .int a1)]) rfl ?_
        refine g_iconst C (v := 0) dX11_line_42 (by decide) ?_
        refine g_istore C dX11_line_43 (by decide) (lo2 := [(5, .int 0), (4, .int x_408903), (3, .int x_408902), (0, .ref x), (1, .int a0), (2, .int a1)]) rfl ?_
        refine g_lo (is := [3, 4, 5, 2, 1, 0]) (lo2 := [(0, .ref x), (1, .int a0), (2, .int a1), (3, .int x_408902), (4, .int x_408903), (5, .int 0)]) rfl ?_
        exact l_45 7 a0 (r_408896) a1 (r_408901) x_408902 x_408903 (rx_408903) 0 (rg_w rc_0 (by decide) (by decide)) x_408902 hx_408902 (ms_s (a := 0) (b := 6) (N := 7) (rg_w rc_0 (by decide) (by decide)) (by decide))
      · skip
        have r_408907 := le_r (nlt h_408900) rc_7 r_408899
        refine g_iconst C (v := (-1)) dX11_line_21 (by decide) ?_
        exact g_zret (ty := .int) (r := (-1)) B K rfl (rfl) ⟨rfl, rfl, rg_w rc_m1 (by decide) (by decide)⟩ dX11_line_22
set_option maxRecDepth 100000 in
set_option maxHeartbeats 8000000 in
theorem c_X1_living {l : Launch} {D : va_G} {cy : Nat → ClassId} {L : List Nat} {κ ln : Nat → Nat} {R : Nat → Nat → Option Nat} {I : Nat → Nat → Int32} {J : Nat → Nat → Int64} {ow : Nat → Nat × Nat} (W9 : ∀ a ∈ L, Shp L κ ln R ow a) {x : Nat} (hLx : x ∈ L) (hkx : κ x = 1) (hU : Uv L κ ow I) : CtI l yX1_living cX1_living 1 (some .int) { frames := 1, cells := 0, slots := 0, locals := 20 } D cy L κ ln R I J [.ref x] (fun r I2 J2 => I = I2 ∧ J = J2 ∧ Rg 0 127 r) := by
  refine CtI.of (by decide +kernel) (Nat.le_of_ble_eq_true rfl) ?_
  intro p e s m below meth c B K
  have C := B.1
  obtain ⟨b_408924, hb_408924, hb_408924L, hb_408924k⟩ := shp_o (W9 x hLx) hkx 0 8 rfl (by decide)
  refine g_lo (is := [0]) (lo2 := [(0, .ref x)]) rfl ?_
  refine g_aload_n C 0 dX1_living_0 rfl rfl ?_
  refine g_getR C K hLx hkx f_1_52 hb_408924 dX1_living_1 ?_
  refine g_callVI C K (c_X8_everybody W9 hb_408924L hb_408924k   hU) hb_408924L hb_408924k (by decide) rfl v_1_62 rfl ⟨rfl, rfl⟩ ⟨Nat.le_of_ble_eq_true rfl, Nat.le_of_ble_eq_true rfl⟩ (Nat.le_of_ble_eq_true rfl) ⟨Nat.le_of_ble_eq_true rfl, Nat.le_of_ble_eq_true rfl⟩ dX1_living_4 rfl (st := []) (fun x_408925 I_408926 J_408927 h_408928 => ?_)
  obtain ⟨rfl, rfl, rx_408925⟩ := h_408928
  refine g_aload_n C 0 dX1_living_7 rfl rfl ?_
  obtain ⟨x_408929, hx_408929, rx_408929⟩ := ex_get (I := I) (a := x) (j := 7) (lo := (-2147483648)) (hi := 2147483647) hU hLx (ro_o hkx (by decide)) rfl
  refine g_getI C K hLx hkx f_1_30 (v := x_408929) hx_408929 dX1_living_8 ?_
  refine g_iconst C (v := (-1)) dX1_living_11 (by decide) ?_
  obtain ⟨x_408930, hx_408930, rx_408930⟩ := ex_any (z0 := x_408929 ^^^ (-1))
  refine g_ixor C (v := x_408930) dX1_living_12 hx_408930 ?_
  obtain ⟨x_408931, hx_408931, rx_408931⟩ := ex_andl (x := x_408925) (y := x_408930) (b := 127) (rx_408925)
  refine g_iand C (v := x_408931) dX1_living_13 hx_408931 ?_
  exact g_zret (ty := .int) (r := x_408931) B K rfl (rfl) ⟨rfl, rfl, rx_408931⟩ dX1_living_14
set_option maxRecDepth 100000 in
set_option maxHeartbeats 8000000 in
theorem c_X11_orderAt {l : Launch} {D : va_G} {cy : Nat → ClassId} {L : List Nat} {κ ln : Nat → Nat} {R : Nat → Nat → Option Nat} {I : Nat → Nat → Int32} {J : Nat → Nat → Int64} {ow : Nat → Nat × Nat} (W9 : ∀ a ∈ L, Shp L κ ln R ow a) {x : Nat} (hLx : x ∈ L) (hkx : κ x = 11) (a0 : Int32) (hU : Uv L κ ow I) : CtI l yX11_orderAt cX11_orderAt 2 (some .int) { frames := 0, cells := 0, slots := 0, locals := 0 } D cy L κ ln R I J [.ref x, .int a0] (fun r I2 J2 => I = I2 ∧ J = J2 ∧ Rg (-2147483648) 2147483647 r) := by
  refine CtI.of (by decide +kernel) (Nat.le_of_ble_eq_true rfl) ?_
  intro p e s m below meth c B K
  have C := B.1
  obtain ⟨b_408952, hb_408952, hb_408952L, hb_408952k⟩ := shp_o (W9 x hLx) hkx 9 4 rfl (by decide)
  obtain ⟨b_408953, hb_408953, hb_408953L, hb_408953k, hb_408953n, hb_408953o⟩ := shp_a (W9 b_408952 hb_408952L) hb_408952k 2 14 7 rfl (by decide)
  refine g_lo (is := [0, 1]) (lo2 := [(0, .ref x), (1, .int a0)]) rfl ?_
  refine g_iload_n C 1 dX11_orderAt_0 rfl rfl ?_
  refine g_if_lt C (tgt := 27) dX11_orderAt_1 (by decide) (fun h_408954 => ?_) (fun h_408954 => ?_)
  · skip
    have r_408955 := lt_l (hi := (-1)) (h_408954) (rg_all a0) rc_0 (by decide)
    refine g_iconst C (v := (-1)) dX11_orderAt_27 (by decide) ?_
    exact g_zret (ty := .int) (r := (-1)) B K rfl (rfl) ⟨rfl, rfl, rg_all _⟩ dX11_orderAt_28
  · skip
    have r_408956 := le_r (nlt h_408954) rc_0 (rg_all a0)
    refine g_iload_n C 1 dX11_orderAt_4 rfl rfl ?_
    refine g_aload_n C 0 dX11_orderAt_5 rfl rfl ?_
    refine g_getR C K hLx hkx f_11_69 hb_408952 dX11_orderAt_6 ?_
    obtain ⟨x_408957, hx_408957, rx_408957⟩ := ex_get (I := I) (a := b_408952) (j := 3) (lo := 0) (hi := 7) hU hb_408952L (ro_o hb_408952k (by decide)) rfl
    refine g_getI C K hb_408952L hb_408952k f_11_269 (v := x_408957) hx_408957 dX11_orderAt_9 ?_
    refine g_icmp_ge C (tgt := 27) dX11_orderAt_12 (by decide) (fun h_408958 => ?_) (fun h_408958 => ?_)
    · skip
      refine g_iconst C (v := (-1)) dX11_orderAt_27 (by decide) ?_
      exact g_zret (ty := .int) (r := (-1)) B K rfl (rfl) ⟨rfl, rfl, rg_all _⟩ dX11_orderAt_28
    · skip
      have r_408959 := lt_l (hi := 6) (nle h_408958) r_408956 rx_408957 (by decide)
      have r_408960 := lt_r (lo := 1) (nle h_408958) r_408956 rx_408957 (by decide)
      refine g_aload_n C 0 dX11_orderAt_15 rfl rfl ?_
      refine g_getR C K hLx hkx f_11_69 hb_408952 dX11_orderAt_16 ?_
      refine g_getR C K hb_408952L hb_408952k f_11_272 hb_408953 dX11_orderAt_19 ?_
      refine g_iload_n C 1 dX11_orderAt_22 rfl rfl ?_
      obtain ⟨x_408961, hx_408961, rx_408961⟩ := ex_get (I := I) (a := b_408953) (j := a0.toNatClampNeg) (lo := (-2147483648)) (hi := 2147483647) hU hb_408953L (ro_a hb_408953k (by decide) hb_408953o hb_408952k rfl) (rfl)
      refine h_iald C K hb_408953L hb_408953k (v := x_408961) (a0.toNatClampNeg) (rfl) (ix_0 r_408959 (by decide)) (ix_lt r_408959 (by decide) hb_408953n (by decide)) hx_408961 dX11_orderAt_23 ?_
      refine g_goto C (tgt := 28) dX11_orderAt_24 (by decide) ?_
      exact g_zret (ty := .int) (r := x_408961) B K rfl (rfl) ⟨rfl, rfl, rx_408961⟩ dX11_orderAt_28
