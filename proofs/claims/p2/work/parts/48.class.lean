theorem dX11_accept_0 : decode cX11_accept 0 = .ok (.aload_n 0, 1) := by decide +kernel
theorem dX11_accept_1 : decode cX11_accept 1 = .ok (.getfield 19, 3) := by decide +kernel
theorem dX11_accept_4 : decode cX11_accept 4 = .ok (.iload_n 1, 1) := by decide +kernel
theorem dX11_accept_5 : decode cX11_accept 5 = .ok (.invokevirtual 133, 3) := by decide +kernel
theorem dX11_accept_8 : decode cX11_accept 8 = .ok (.ifCond .ne 5, 3) := by decide +kernel
theorem dX11_accept_11 : decode cX11_accept 11 = .ok (.iconst (-1), 1) := by decide +kernel
theorem dX11_accept_12 : decode cX11_accept 12 = .ok (.ireturn, 1) := by decide +kernel
theorem dX11_accept_13 : decode cX11_accept 13 = .ok (.aload_n 0, 1) := by decide +kernel
theorem dX11_accept_14 : decode cX11_accept 14 = .ok (.getfield 38, 3) := by decide +kernel
theorem dX11_accept_17 : decode cX11_accept 17 = .ok (.aload_n 0, 1) := by decide +kernel
theorem dX11_accept_18 : decode cX11_accept 18 = .ok (.getfield 28, 3) := by decide +kernel
theorem dX11_accept_21 : decode cX11_accept 21 = .ok (.invokevirtual 225, 3) := by decide +kernel
theorem dX11_accept_24 : decode cX11_accept 24 = .ok (.aload_n 0, 1) := by decide +kernel
theorem dX11_accept_25 : decode cX11_accept 25 = .ok (.aload_n 0, 1) := by decide +kernel
theorem dX11_accept_26 : decode cX11_accept 26 = .ok (.getfield 28, 3) := by decide +kernel
theorem dX11_accept_29 : decode cX11_accept 29 = .ok (.iload_n 1, 1) := by decide +kernel
theorem dX11_accept_30 : decode cX11_accept 30 = .ok (.invokevirtual 244, 3) := by decide +kernel
theorem dX11_accept_33 : decode cX11_accept 33 = .ok (.invokevirtual 232, 3) := by decide +kernel
theorem dX11_accept_36 : decode cX11_accept 36 = .ok (.ireturn, 1) := by decide +kernel
theorem dX11_die_0 : decode cX11_die 0 = .ok (.aload_n 0, 1) := by decide +kernel
theorem dX11_die_1 : decode cX11_die 1 = .ok (.getfield 19, 3) := by decide +kernel
theorem dX11_die_4 : decode cX11_die 4 = .ok (.iload_n 1, 1) := by decide +kernel
theorem dX11_die_5 : decode cX11_die 5 = .ok (.invokevirtual 133, 3) := by decide +kernel
theorem dX11_die_8 : decode cX11_die 8 = .ok (.ifCond .ne 5, 3) := by decide +kernel
theorem dX11_die_11 : decode cX11_die 11 = .ok (.iconst (-1), 1) := by decide +kernel
theorem dX11_die_12 : decode cX11_die 12 = .ok (.ireturn, 1) := by decide +kernel
theorem dX11_die_13 : decode cX11_die 13 = .ok (.aload_n 0, 1) := by decide +kernel
theorem dX11_die_14 : decode cX11_die 14 = .ok (.getfield 38, 3) := by decide +kernel
theorem dX11_die_17 : decode cX11_die 17 = .ok (.aload_n 0, 1) := by decide +kernel
theorem dX11_die_18 : decode cX11_die 18 = .ok (.getfield 28, 3) := by decide +kernel
theorem dX11_die_21 : decode cX11_die 21 = .ok (.invokevirtual 225, 3) := by decide +kernel
theorem dX11_die_24 : decode cX11_die 24 = .ok (.aload_n 0, 1) := by decide +kernel
theorem dX11_die_25 : decode cX11_die 25 = .ok (.aload_n 0, 1) := by decide +kernel
theorem dX11_die_26 : decode cX11_die 26 = .ok (.getfield 28, 3) := by decide +kernel
theorem dX11_die_29 : decode cX11_die 29 = .ok (.iload_n 1, 1) := by decide +kernel
theorem dX11_die_30 : decode cX11_die 30 = .ok (.invokevirtual 247, 3) := by decide +kernel
theorem dX11_die_33 : decode cX11_die 33 = .ok (.invokevirtual 232, 3) := by decide +kernel
theorem dX11_die_36 : decode cX11_die 36 = .ok (.ireturn, 1) := by decide +kernel
theorem dX11_keptIfAny_0 : decode cX11_keptIfAny 0 = .ok (.iload_n 1, 1) := by decide +kernel
theorem dX11_keptIfAny_1 : decode cX11_keptIfAny 1 = .ok (.ifCond .le 10, 3) := by decide +kernel
theorem dX11_keptIfAny_4 : decode cX11_keptIfAny 4 = .ok (.aload_n 0, 1) := by decide +kernel
theorem dX11_keptIfAny_5 : decode cX11_keptIfAny 5 = .ok (.getfield 38, 3) := by decide +kernel
theorem dX11_keptIfAny_8 : decode cX11_keptIfAny 8 = .ok (.invokevirtual 260, 3) := by decide +kernel
theorem dX11_keptIfAny_11 : decode cX11_keptIfAny 11 = .ok (.iload_n 1, 1) := by decide +kernel
theorem dX11_keptIfAny_12 : decode cX11_keptIfAny 12 = .ok (.ireturn, 1) := by decide +kernel
theorem dX11_refuse_0 : decode cX11_refuse 0 = .ok (.aload_n 0, 1) := by decide +kernel
theorem dX11_refuse_1 : decode cX11_refuse 1 = .ok (.getfield 19, 3) := by decide +kernel
theorem dX11_refuse_4 : decode cX11_refuse 4 = .ok (.iload_n 1, 1) := by decide +kernel
theorem dX11_refuse_5 : decode cX11_refuse 5 = .ok (.invokevirtual 133, 3) := by decide +kernel
theorem dX11_refuse_8 : decode cX11_refuse 8 = .ok (.ifCond .ne 5, 3) := by decide +kernel
theorem dX11_refuse_11 : decode cX11_refuse 11 = .ok (.iconst (-1), 1) := by decide +kernel
theorem dX11_refuse_12 : decode cX11_refuse 12 = .ok (.ireturn, 1) := by decide +kernel
theorem dX11_refuse_13 : decode cX11_refuse 13 = .ok (.aload_n 0, 1) := by decide +kernel
theorem dX11_refuse_14 : decode cX11_refuse 14 = .ok (.getfield 38, 3) := by decide +kernel
theorem dX11_refuse_17 : decode cX11_refuse 17 = .ok (.aload_n 0, 1) := by decide +kernel
theorem dX11_refuse_18 : decode cX11_refuse 18 = .ok (.getfield 28, 3) := by decide +kernel
theorem dX11_refuse_21 : decode cX11_refuse 21 = .ok (.invokevirtual 225, 3) := by decide +kernel
theorem dX11_refuse_24 : decode cX11_refuse 24 = .ok (.aload_n 0, 1) := by decide +kernel
theorem dX11_refuse_25 : decode cX11_refuse 25 = .ok (.aload_n 0, 1) := by decide +kernel
theorem dX11_refuse_26 : decode cX11_refuse 26 = .ok (.getfield 28, 3) := by decide +kernel
theorem dX11_refuse_29 : decode cX11_refuse 29 = .ok (.iload_n 1, 1) := by decide +kernel
theorem dX11_refuse_30 : decode cX11_refuse 30 = .ok (.invokevirtual 241, 3) := by decide +kernel
theorem dX11_refuse_33 : decode cX11_refuse 33 = .ok (.invokevirtual 232, 3) := by decide +kernel
theorem dX11_refuse_36 : decode cX11_refuse 36 = .ok (.ireturn, 1) := by decide +kernel
theorem dX11_rise_0 : decode cX11_rise 0 = .ok (.aload_n 0, 1) := by decide +kernel
theorem dX11_rise_1 : decode cX11_rise 1 = .ok (.getfield 19, 3) := by decide +kernel
theorem dX11_rise_4 : decode cX11_rise 4 = .ok (.iload_n 1, 1) := by decide +kernel
theorem dX11_rise_5 : decode cX11_rise 5 = .ok (.invokevirtual 133, 3) := by decide +kernel
theorem dX11_rise_8 : decode cX11_rise 8 = .ok (.ifCond .ne 5, 3) := by decide +kernel
theorem dX11_rise_11 : decode cX11_rise 11 = .ok (.iconst (-1), 1) := by decide +kernel
theorem dX11_rise_12 : decode cX11_rise 12 = .ok (.ireturn, 1) := by decide +kernel
theorem dX11_rise_13 : decode cX11_rise 13 = .ok (.aload_n 0, 1) := by decide +kernel
theorem dX11_rise_14 : decode cX11_rise 14 = .ok (.getfield 38, 3) := by decide +kernel
theorem dX11_rise_17 : decode cX11_rise 17 = .ok (.aload_n 0, 1) := by decide +kernel
theorem dX11_rise_18 : decode cX11_rise 18 = .ok (.getfield 28, 3) := by decide +kernel
theorem dX11_rise_21 : decode cX11_rise 21 = .ok (.invokevirtual 225, 3) := by decide +kernel
theorem dX11_rise_24 : decode cX11_rise 24 = .ok (.aload_n 0, 1) := by decide +kernel
theorem dX11_rise_25 : decode cX11_rise 25 = .ok (.aload_n 0, 1) := by decide +kernel
theorem dX11_rise_26 : decode cX11_rise 26 = .ok (.getfield 28, 3) := by decide +kernel
theorem dX11_rise_29 : decode cX11_rise 29 = .ok (.iload_n 1, 1) := by decide +kernel
theorem dX11_rise_30 : decode cX11_rise 30 = .ok (.invokevirtual 238, 3) := by decide +kernel
theorem dX11_rise_33 : decode cX11_rise 33 = .ok (.invokevirtual 232, 3) := by decide +kernel
theorem dX11_rise_36 : decode cX11_rise 36 = .ok (.ireturn, 1) := by decide +kernel
theorem dX1_firstBehind_0 : decode cX1_firstBehind 0 = .ok (.iload_n 1, 1) := by decide +kernel
theorem dX1_firstBehind_1 : decode cX1_firstBehind 1 = .ok (.istore_n 3, 1) := by decide +kernel
theorem dX1_firstBehind_2 : decode cX1_firstBehind 2 = .ok (.iconst 1, 1) := by decide +kernel
theorem dX1_firstBehind_3 : decode cX1_firstBehind 3 = .ok (.istore 4, 2) := by decide +kernel
theorem dX1_firstBehind_5 : decode cX1_firstBehind 5 = .ok (.iload 4, 2) := by decide +kernel
theorem dX1_firstBehind_7 : decode cX1_firstBehind 7 = .ok (.aload_n 0, 1) := by decide +kernel
theorem dX1_firstBehind_8 : decode cX1_firstBehind 8 = .ok (.getfield 52, 3) := by decide +kernel
theorem dX1_firstBehind_11 : decode cX1_firstBehind 11 = .ok (.getfield 68, 3) := by decide +kernel
theorem dX1_firstBehind_14 : decode cX1_firstBehind 14 = .ok (.if_icmp .ge 40, 3) := by decide +kernel
theorem dX1_firstBehind_17 : decode cX1_firstBehind 17 = .ok (.iload_n 3, 1) := by decide +kernel
theorem dX1_firstBehind_18 : decode cX1_firstBehind 18 = .ok (.iconst 1, 1) := by decide +kernel
theorem dX1_firstBehind_19 : decode cX1_firstBehind 19 = .ok (.iadd, 1) := by decide +kernel
theorem dX1_firstBehind_20 : decode cX1_firstBehind 20 = .ok (.aload_n 0, 1) := by decide +kernel
theorem dX1_firstBehind_21 : decode cX1_firstBehind 21 = .ok (.getfield 52, 3) := by decide +kernel
theorem dX1_firstBehind_24 : decode cX1_firstBehind 24 = .ok (.getfield 68, 3) := by decide +kernel
theorem dX1_firstBehind_27 : decode cX1_firstBehind 27 = .ok (.if_icmp .ge 9, 3) := by decide +kernel
theorem dX1_firstBehind_30 : decode cX1_firstBehind 30 = .ok (.iload_n 3, 1) := by decide +kernel
theorem dX1_firstBehind_31 : decode cX1_firstBehind 31 = .ok (.iconst 1, 1) := by decide +kernel
theorem dX1_firstBehind_32 : decode cX1_firstBehind 32 = .ok (.iadd, 1) := by decide +kernel
theorem dX1_firstBehind_33 : decode cX1_firstBehind 33 = .ok (.goto 4, 3) := by decide +kernel
theorem dX1_firstBehind_36 : decode cX1_firstBehind 36 = .ok (.iconst 0, 1) := by decide +kernel
theorem dX1_firstBehind_37 : decode cX1_firstBehind 37 = .ok (.istore_n 3, 1) := by decide +kernel
theorem dX1_firstBehind_38 : decode cX1_firstBehind 38 = .ok (.iload_n 2, 1) := by decide +kernel
theorem dX1_firstBehind_39 : decode cX1_firstBehind 39 = .ok (.iload_n 3, 1) := by decide +kernel
theorem dX1_firstBehind_40 : decode cX1_firstBehind 40 = .ok (.ishr, 1) := by decide +kernel
theorem dX1_firstBehind_41 : decode cX1_firstBehind 41 = .ok (.iconst 1, 1) := by decide +kernel
theorem dX1_firstBehind_42 : decode cX1_firstBehind 42 = .ok (.iand, 1) := by decide +kernel
theorem dX1_firstBehind_43 : decode cX1_firstBehind 43 = .ok (.ifCond .eq 5, 3) := by decide +kernel
theorem dX1_firstBehind_46 : decode cX1_firstBehind 46 = .ok (.iload_n 3, 1) := by decide +kernel
theorem dX1_firstBehind_47 : decode cX1_firstBehind 47 = .ok (.ireturn, 1) := by decide +kernel
theorem dX1_firstBehind_48 : decode cX1_firstBehind 48 = .ok (.iinc 4 1, 3) := by decide +kernel
theorem dX1_firstBehind_51 : decode cX1_firstBehind 51 = .ok (.goto (-46), 3) := by decide +kernel
theorem dX1_firstBehind_54 : decode cX1_firstBehind 54 = .ok (.iconst (-1), 1) := by decide +kernel
theorem dX1_firstBehind_55 : decode cX1_firstBehind 55 = .ok (.ireturn, 1) := by decide +kernel
theorem dX1_heirOf_0 : decode cX1_heirOf 0 = .ok (.aload_n 0, 1) := by decide +kernel
theorem dX1_heirOf_1 : decode cX1_heirOf 1 = .ok (.getfield 52, 3) := by decide +kernel
theorem dX1_heirOf_4 : decode cX1_heirOf 4 = .ok (.invokevirtual 62, 3) := by decide +kernel
theorem dX1_heirOf_7 : decode cX1_heirOf 7 = .ok (.aload_n 0, 1) := by decide +kernel
theorem dX1_heirOf_8 : decode cX1_heirOf 8 = .ok (.getfield 30, 3) := by decide +kernel
theorem dX1_heirOf_11 : decode cX1_heirOf 11 = .ok (.iconst (-1), 1) := by decide +kernel
theorem dX1_heirOf_12 : decode cX1_heirOf 12 = .ok (.ixor, 1) := by decide +kernel
theorem dX1_heirOf_13 : decode cX1_heirOf 13 = .ok (.iand, 1) := by decide +kernel
theorem dX1_heirOf_14 : decode cX1_heirOf 14 = .ok (.iload_n 2, 1) := by decide +kernel
theorem dX1_heirOf_15 : decode cX1_heirOf 15 = .ok (.iconst (-1), 1) := by decide +kernel
theorem dX1_heirOf_16 : decode cX1_heirOf 16 = .ok (.ixor, 1) := by decide +kernel
theorem dX1_heirOf_17 : decode cX1_heirOf 17 = .ok (.iand, 1) := by decide +kernel
theorem dX1_heirOf_18 : decode cX1_heirOf 18 = .ok (.iconst 1, 1) := by decide +kernel
theorem dX1_heirOf_19 : decode cX1_heirOf 19 = .ok (.iload_n 1, 1) := by decide +kernel
theorem dX1_heirOf_20 : decode cX1_heirOf 20 = .ok (.ishl, 1) := by decide +kernel
theorem dX1_heirOf_21 : decode cX1_heirOf 21 = .ok (.iconst (-1), 1) := by decide +kernel
theorem dX1_heirOf_22 : decode cX1_heirOf 22 = .ok (.ixor, 1) := by decide +kernel
theorem dX1_heirOf_23 : decode cX1_heirOf 23 = .ok (.iand, 1) := by decide +kernel
theorem dX1_heirOf_24 : decode cX1_heirOf 24 = .ok (.istore_n 3, 1) := by decide +kernel
theorem dX1_heirOf_25 : decode cX1_heirOf 25 = .ok (.aload_n 0, 1) := by decide +kernel
theorem dX1_heirOf_26 : decode cX1_heirOf 26 = .ok (.getfield 52, 3) := by decide +kernel
theorem dX1_heirOf_29 : decode cX1_heirOf 29 = .ok (.getfield 78, 3) := by decide +kernel
theorem dX1_heirOf_32 : decode cX1_heirOf 32 = .ok (.iconst 2, 1) := by decide +kernel
theorem dX1_heirOf_33 : decode cX1_heirOf 33 = .ok (.if_icmp .ne 9, 3) := by decide +kernel
theorem dX1_heirOf_36 : decode cX1_heirOf 36 = .ok (.aload_n 0, 1) := by decide +kernel
theorem dX1_heirOf_37 : decode cX1_heirOf 37 = .ok (.iload_n 3, 1) := by decide +kernel
theorem dX1_heirOf_38 : decode cX1_heirOf 38 = .ok (.invokevirtual 81, 3) := by decide +kernel
theorem dX1_heirOf_41 : decode cX1_heirOf 41 = .ok (.ireturn, 1) := by decide +kernel
theorem dX1_heirOf_42 : decode cX1_heirOf 42 = .ok (.aload_n 0, 1) := by decide +kernel
theorem dX1_heirOf_43 : decode cX1_heirOf 43 = .ok (.getfield 52, 3) := by decide +kernel
theorem dX1_heirOf_46 : decode cX1_heirOf 46 = .ok (.getfield 78, 3) := by decide +kernel
theorem dX1_heirOf_49 : decode cX1_heirOf 49 = .ok (.iconst 1, 1) := by decide +kernel
theorem dX1_heirOf_50 : decode cX1_heirOf 50 = .ok (.if_icmp .ne 16, 3) := by decide +kernel
theorem dX1_heirOf_53 : decode cX1_heirOf 53 = .ok (.iload_n 3, 1) := by decide +kernel
theorem dX1_heirOf_54 : decode cX1_heirOf 54 = .ok (.aload_n 0, 1) := by decide +kernel
theorem dX1_heirOf_55 : decode cX1_heirOf 55 = .ok (.getfield 52, 3) := by decide +kernel
theorem dX1_heirOf_58 : decode cX1_heirOf 58 = .ok (.iload_n 1, 1) := by decide +kernel
theorem dX1_heirOf_59 : decode cX1_heirOf 59 = .ok (.invokevirtual 85, 3) := by decide +kernel
theorem dX1_heirOf_62 : decode cX1_heirOf 62 = .ok (.iand, 1) := by decide +kernel
theorem dX1_heirOf_63 : decode cX1_heirOf 63 = .ok (.goto 4, 3) := by decide +kernel
theorem dX1_heirOf_66 : decode cX1_heirOf 66 = .ok (.iconst 0, 1) := by decide +kernel
theorem dX1_heirOf_67 : decode cX1_heirOf 67 = .ok (.istore 4, 2) := by decide +kernel
theorem dX1_heirOf_69 : decode cX1_heirOf 69 = .ok (.aload_n 0, 1) := by decide +kernel
theorem dX1_heirOf_70 : decode cX1_heirOf 70 = .ok (.iload_n 1, 1) := by decide +kernel
theorem dX1_heirOf_71 : decode cX1_heirOf 71 = .ok (.iload 4, 2) := by decide +kernel
theorem dX1_heirOf_73 : decode cX1_heirOf 73 = .ok (.ifCond .eq 8, 3) := by decide +kernel
theorem dX1_heirOf_76 : decode cX1_heirOf 76 = .ok (.iload 4, 2) := by decide +kernel
theorem dX1_heirOf_78 : decode cX1_heirOf 78 = .ok (.goto 4, 3) := by decide +kernel
theorem dX1_heirOf_81 : decode cX1_heirOf 81 = .ok (.iload_n 3, 1) := by decide +kernel
theorem dX1_heirOf_82 : decode cX1_heirOf 82 = .ok (.invokevirtual 88, 3) := by decide +kernel
theorem dX1_heirOf_85 : decode cX1_heirOf 85 = .ok (.ireturn, 1) := by decide +kernel
theorem dX1_leastFed_0 : decode cX1_leastFed 0 = .ok (.iconst (-1), 1) := by decide +kernel
theorem dX1_leastFed_1 : decode cX1_leastFed 1 = .ok (.istore_n 2, 1) := by decide +kernel
theorem dX1_leastFed_2 : decode cX1_leastFed 2 = .ok (.iconst 0, 1) := by decide +kernel
theorem dX1_leastFed_3 : decode cX1_leastFed 3 = .ok (.istore_n 3, 1) := by decide +kernel
theorem dX1_leastFed_4 : decode cX1_leastFed 4 = .ok (.iload_n 3, 1) := by decide +kernel
theorem dX1_leastFed_5 : decode cX1_leastFed 5 = .ok (.aload_n 0, 1) := by decide +kernel
theorem dX1_leastFed_6 : decode cX1_leastFed 6 = .ok (.getfield 52, 3) := by decide +kernel
theorem dX1_leastFed_9 : decode cX1_leastFed 9 = .ok (.getfield 68, 3) := by decide +kernel
theorem dX1_leastFed_12 : decode cX1_leastFed 12 = .ok (.if_icmp .ge 39, 3) := by decide +kernel
theorem dX1_leastFed_15 : decode cX1_leastFed 15 = .ok (.iload_n 1, 1) := by decide +kernel
theorem dX1_leastFed_16 : decode cX1_leastFed 16 = .ok (.iload_n 3, 1) := by decide +kernel
theorem dX1_leastFed_17 : decode cX1_leastFed 17 = .ok (.ishr, 1) := by decide +kernel
theorem dX1_leastFed_18 : decode cX1_leastFed 18 = .ok (.iconst 1, 1) := by decide +kernel
theorem dX1_leastFed_19 : decode cX1_leastFed 19 = .ok (.iand, 1) := by decide +kernel
theorem dX1_leastFed_20 : decode cX1_leastFed 20 = .ok (.ifCond .eq 25, 3) := by decide +kernel
theorem dX1_leastFed_23 : decode cX1_leastFed 23 = .ok (.iload_n 2, 1) := by decide +kernel
theorem dX1_leastFed_24 : decode cX1_leastFed 24 = .ok (.iconst (-1), 1) := by decide +kernel
theorem dX1_leastFed_25 : decode cX1_leastFed 25 = .ok (.if_icmp .eq 18, 3) := by decide +kernel
theorem dX1_leastFed_28 : decode cX1_leastFed 28 = .ok (.aload_n 0, 1) := by decide +kernel
theorem dX1_leastFed_29 : decode cX1_leastFed 29 = .ok (.getfield 21, 3) := by decide +kernel
theorem dX1_leastFed_32 : decode cX1_leastFed 32 = .ok (.iload_n 3, 1) := by decide +kernel
theorem dX1_leastFed_33 : decode cX1_leastFed 33 = .ok (.iaload, 1) := by decide +kernel
theorem dX1_leastFed_34 : decode cX1_leastFed 34 = .ok (.aload_n 0, 1) := by decide +kernel
theorem dX1_leastFed_35 : decode cX1_leastFed 35 = .ok (.getfield 21, 3) := by decide +kernel
theorem dX1_leastFed_38 : decode cX1_leastFed 38 = .ok (.iload_n 2, 1) := by decide +kernel
theorem dX1_leastFed_39 : decode cX1_leastFed 39 = .ok (.iaload, 1) := by decide +kernel
theorem dX1_leastFed_40 : decode cX1_leastFed 40 = .ok (.if_icmp .ge 5, 3) := by decide +kernel
theorem dX1_leastFed_43 : decode cX1_leastFed 43 = .ok (.iload_n 3, 1) := by decide +kernel
theorem dX1_leastFed_44 : decode cX1_leastFed 44 = .ok (.istore_n 2, 1) := by decide +kernel
theorem dX1_leastFed_45 : decode cX1_leastFed 45 = .ok (.iinc 3 1, 3) := by decide +kernel
theorem dX1_leastFed_48 : decode cX1_leastFed 48 = .ok (.goto (-44), 3) := by decide +kernel
theorem dX1_leastFed_51 : decode cX1_leastFed 51 = .ok (.iload_n 2, 1) := by decide +kernel
theorem dX1_leastFed_52 : decode cX1_leastFed 52 = .ok (.ireturn, 1) := by decide +kernel
theorem dX1_passOn_0 : decode cX1_passOn 0 = .ok (.aload_n 0, 1) := by decide +kernel
theorem dX1_passOn_1 : decode cX1_passOn 1 = .ok (.iload_n 1, 1) := by decide +kernel
theorem dX1_passOn_2 : decode cX1_passOn 2 = .ok (.aload_n 0, 1) := by decide +kernel
theorem dX1_passOn_3 : decode cX1_passOn 3 = .ok (.getfield 34, 3) := by decide +kernel
theorem dX1_passOn_6 : decode cX1_passOn 6 = .ok (.invokevirtual 91, 3) := by decide +kernel
theorem dX1_passOn_9 : decode cX1_passOn 9 = .ok (.istore_n 2, 1) := by decide +kernel
theorem dX1_passOn_10 : decode cX1_passOn 10 = .ok (.aload_n 0, 1) := by decide +kernel
theorem dX1_passOn_11 : decode cX1_passOn 11 = .ok (.getfield 52, 3) := by decide +kernel
theorem dX1_passOn_14 : decode cX1_passOn 14 = .ok (.getfield 94, 3) := by decide +kernel
theorem dX1_passOn_17 : decode cX1_passOn 17 = .ok (.istore_n 3, 1) := by decide +kernel
theorem dX1_passOn_18 : decode cX1_passOn 18 = .ok (.iconst 0, 1) := by decide +kernel
theorem dX1_passOn_19 : decode cX1_passOn 19 = .ok (.istore 4, 2) := by decide +kernel
theorem dX1_passOn_21 : decode cX1_passOn 21 = .ok (.iload 4, 2) := by decide +kernel
theorem dX1_passOn_23 : decode cX1_passOn 23 = .ok (.aload_n 0, 1) := by decide +kernel
theorem dX1_passOn_24 : decode cX1_passOn 24 = .ok (.getfield 52, 3) := by decide +kernel
theorem dX1_passOn_27 : decode cX1_passOn 27 = .ok (.getfield 97, 3) := by decide +kernel
theorem dX1_passOn_30 : decode cX1_passOn 30 = .ok (.if_icmp .ge 87, 3) := by decide +kernel
theorem dX1_passOn_33 : decode cX1_passOn 33 = .ok (.aload_n 0, 1) := by decide +kernel
theorem dX1_passOn_34 : decode cX1_passOn 34 = .ok (.iload_n 1, 1) := by decide +kernel
theorem dX1_passOn_35 : decode cX1_passOn 35 = .ok (.iload 4, 2) := by decide +kernel
theorem dX1_passOn_37 : decode cX1_passOn 37 = .ok (.invokevirtual 71, 3) := by decide +kernel
theorem dX1_passOn_40 : decode cX1_passOn 40 = .ok (.istore 5, 2) := by decide +kernel
theorem dX1_passOn_42 : decode cX1_passOn 42 = .ok (.iload 5, 2) := by decide +kernel
theorem dX1_passOn_44 : decode cX1_passOn 44 = .ok (.iload_n 3, 1) := by decide +kernel
theorem dX1_passOn_45 : decode cX1_passOn 45 = .ok (.invokestatic 100, 3) := by decide +kernel
theorem dX1_passOn_48 : decode cX1_passOn 48 = .ok (.istore 6, 2) := by decide +kernel
theorem dX1_passOn_50 : decode cX1_passOn 50 = .ok (.iload_n 3, 1) := by decide +kernel
theorem dX1_passOn_51 : decode cX1_passOn 51 = .ok (.iload 6, 2) := by decide +kernel
theorem dX1_passOn_53 : decode cX1_passOn 53 = .ok (.isub, 1) := by decide +kernel
theorem dX1_passOn_54 : decode cX1_passOn 54 = .ok (.istore_n 3, 1) := by decide +kernel
theorem dX1_passOn_55 : decode cX1_passOn 55 = .ok (.aload_n 0, 1) := by decide +kernel
theorem dX1_passOn_56 : decode cX1_passOn 56 = .ok (.dup, 1) := by decide +kernel
theorem dX1_passOn_57 : decode cX1_passOn 57 = .ok (.getfield 40, 3) := by decide +kernel
theorem dX1_passOn_60 : decode cX1_passOn 60 = .ok (.iload 6, 2) := by decide +kernel
theorem dX1_passOn_62 : decode cX1_passOn 62 = .ok (.iadd, 1) := by decide +kernel
theorem dX1_passOn_63 : decode cX1_passOn 63 = .ok (.putfield 40, 3) := by decide +kernel
theorem dX1_passOn_66 : decode cX1_passOn 66 = .ok (.aload_n 0, 1) := by decide +kernel
theorem dX1_passOn_67 : decode cX1_passOn 67 = .ok (.iload_n 1, 1) := by decide +kernel
theorem dX1_passOn_68 : decode cX1_passOn 68 = .ok (.iload 4, 2) := by decide +kernel
theorem dX1_passOn_70 : decode cX1_passOn 70 = .ok (.iload 5, 2) := by decide +kernel
theorem dX1_passOn_72 : decode cX1_passOn 72 = .ok (.ineg, 1) := by decide +kernel
theorem dX1_passOn_73 : decode cX1_passOn 73 = .ok (.invokevirtual 105, 3) := by decide +kernel
theorem dX1_passOn_76 : decode cX1_passOn 76 = .ok (.iload_n 2, 1) := by decide +kernel
theorem dX1_passOn_77 : decode cX1_passOn 77 = .ok (.iconst (-1), 1) := by decide +kernel
theorem dX1_passOn_78 : decode cX1_passOn 78 = .ok (.if_icmp .ne 21, 3) := by decide +kernel
theorem dX1_passOn_81 : decode cX1_passOn 81 = .ok (.aload_n 0, 1) := by decide +kernel
theorem dX1_passOn_82 : decode cX1_passOn 82 = .ok (.getfield 9, 3) := by decide +kernel
theorem dX1_passOn_85 : decode cX1_passOn 85 = .ok (.iload 4, 2) := by decide +kernel
theorem dX1_passOn_87 : decode cX1_passOn 87 = .ok (.dup2, 1) := by decide +kernel
theorem dX1_passOn_88 : decode cX1_passOn 88 = .ok (.iaload, 1) := by decide +kernel
theorem dX1_passOn_89 : decode cX1_passOn 89 = .ok (.iload 5, 2) := by decide +kernel
theorem dX1_passOn_91 : decode cX1_passOn 91 = .ok (.iload 6, 2) := by decide +kernel
theorem dX1_passOn_93 : decode cX1_passOn 93 = .ok (.isub, 1) := by decide +kernel
theorem dX1_passOn_94 : decode cX1_passOn 94 = .ok (.iadd, 1) := by decide +kernel
theorem dX1_passOn_95 : decode cX1_passOn 95 = .ok (.iastore, 1) := by decide +kernel
theorem dX1_passOn_96 : decode cX1_passOn 96 = .ok (.goto 15, 3) := by decide +kernel
theorem dX1_passOn_99 : decode cX1_passOn 99 = .ok (.aload_n 0, 1) := by decide +kernel
theorem dX1_passOn_100 : decode cX1_passOn 100 = .ok (.iload_n 2, 1) := by decide +kernel
theorem dX1_passOn_101 : decode cX1_passOn 101 = .ok (.iload 4, 2) := by decide +kernel
theorem dX1_passOn_103 : decode cX1_passOn 103 = .ok (.iload 5, 2) := by decide +kernel
theorem dX1_passOn_105 : decode cX1_passOn 105 = .ok (.iload 6, 2) := by decide +kernel
theorem dX1_passOn_107 : decode cX1_passOn 107 = .ok (.isub, 1) := by decide +kernel
theorem dX1_passOn_108 : decode cX1_passOn 108 = .ok (.invokevirtual 105, 3) := by decide +kernel
theorem dX1_passOn_111 : decode cX1_passOn 111 = .ok (.iinc 4 1, 3) := by decide +kernel
theorem dX1_passOn_114 : decode cX1_passOn 114 = .ok (.goto (-93), 3) := by decide +kernel
theorem dX1_passOn_117 : decode cX1_passOn 117 = .ok (.aload_n 0, 1) := by decide +kernel
theorem dX1_passOn_118 : decode cX1_passOn 118 = .ok (.dup, 1) := by decide +kernel
theorem dX1_passOn_119 : decode cX1_passOn 119 = .ok (.getfield 46, 3) := by decide +kernel
theorem dX1_passOn_122 : decode cX1_passOn 122 = .ok (.iconst 1, 1) := by decide +kernel
theorem dX1_passOn_123 : decode cX1_passOn 123 = .ok (.iadd, 1) := by decide +kernel
theorem dX1_passOn_124 : decode cX1_passOn 124 = .ok (.putfield 46, 3) := by decide +kernel
theorem dX1_passOn_127 : decode cX1_passOn 127 = .ok (.return_, 1) := by decide +kernel
theorem dX1_tryToAccept_0 : decode cX1_tryToAccept 0 = .ok (.aload_n 0, 1) := by decide +kernel
theorem dX1_tryToAccept_1 : decode cX1_tryToAccept 1 = .ok (.iload_n 1, 1) := by decide +kernel
theorem dX1_tryToAccept_2 : decode cX1_tryToAccept 2 = .ok (.invokevirtual 115, 3) := by decide +kernel
theorem dX1_tryToAccept_5 : decode cX1_tryToAccept 5 = .ok (.ifCond .ne 5, 3) := by decide +kernel
theorem dX1_tryToAccept_8 : decode cX1_tryToAccept 8 = .ok (.iconst 1, 1) := by decide +kernel
theorem dX1_tryToAccept_9 : decode cX1_tryToAccept 9 = .ok (.ireturn, 1) := by decide +kernel
theorem dX1_tryToAccept_10 : decode cX1_tryToAccept 10 = .ok (.aload_n 0, 1) := by decide +kernel
theorem dX1_tryToAccept_11 : decode cX1_tryToAccept 11 = .ok (.getfield 34, 3) := by decide +kernel
theorem dX1_tryToAccept_14 : decode cX1_tryToAccept 14 = .ok (.iload_n 1, 1) := by decide +kernel
theorem dX1_tryToAccept_15 : decode cX1_tryToAccept 15 = .ok (.ishr, 1) := by decide +kernel
theorem dX1_tryToAccept_16 : decode cX1_tryToAccept 16 = .ok (.iconst 1, 1) := by decide +kernel
theorem dX1_tryToAccept_17 : decode cX1_tryToAccept 17 = .ok (.iand, 1) := by decide +kernel
theorem dX1_tryToAccept_18 : decode cX1_tryToAccept 18 = .ok (.ifCond .ne 5, 3) := by decide +kernel
theorem dX1_tryToAccept_21 : decode cX1_tryToAccept 21 = .ok (.iconst 2, 1) := by decide +kernel
theorem dX1_tryToAccept_22 : decode cX1_tryToAccept 22 = .ok (.ireturn, 1) := by decide +kernel
theorem dX1_tryToAccept_23 : decode cX1_tryToAccept 23 = .ok (.aload_n 0, 1) := by decide +kernel
theorem dX1_tryToAccept_24 : decode cX1_tryToAccept 24 = .ok (.dup, 1) := by decide +kernel
theorem dX1_tryToAccept_25 : decode cX1_tryToAccept 25 = .ok (.getfield 34, 3) := by decide +kernel
theorem dX1_tryToAccept_28 : decode cX1_tryToAccept 28 = .ok (.iconst 1, 1) := by decide +kernel
theorem dX1_tryToAccept_29 : decode cX1_tryToAccept 29 = .ok (.iload_n 1, 1) := by decide +kernel
theorem dX1_tryToAccept_30 : decode cX1_tryToAccept 30 = .ok (.ishl, 1) := by decide +kernel
theorem dX1_tryToAccept_31 : decode cX1_tryToAccept 31 = .ok (.iconst (-1), 1) := by decide +kernel
theorem dX1_tryToAccept_32 : decode cX1_tryToAccept 32 = .ok (.ixor, 1) := by decide +kernel
theorem dX1_tryToAccept_33 : decode cX1_tryToAccept 33 = .ok (.iand, 1) := by decide +kernel
theorem dX1_tryToAccept_34 : decode cX1_tryToAccept 34 = .ok (.putfield 34, 3) := by decide +kernel
theorem dX1_tryToAccept_37 : decode cX1_tryToAccept 37 = .ok (.iconst 0, 1) := by decide +kernel
theorem dX1_tryToAccept_38 : decode cX1_tryToAccept 38 = .ok (.ireturn, 1) := by decide +kernel
theorem dX1_tryToDie_0 : decode cX1_tryToDie 0 = .ok (.aload_n 0, 1) := by decide +kernel
theorem dX1_tryToDie_1 : decode cX1_tryToDie 1 = .ok (.iload_n 1, 1) := by decide +kernel
theorem dX1_tryToDie_2 : decode cX1_tryToDie 2 = .ok (.invokevirtual 115, 3) := by decide +kernel
theorem dX1_tryToDie_5 : decode cX1_tryToDie 5 = .ok (.ifCond .ne 5, 3) := by decide +kernel
theorem dX1_tryToDie_8 : decode cX1_tryToDie 8 = .ok (.iconst 1, 1) := by decide +kernel
theorem dX1_tryToDie_9 : decode cX1_tryToDie 9 = .ok (.ireturn, 1) := by decide +kernel
theorem dX1_tryToDie_10 : decode cX1_tryToDie 10 = .ok (.aload_n 0, 1) := by decide +kernel
theorem dX1_tryToDie_11 : decode cX1_tryToDie 11 = .ok (.dup, 1) := by decide +kernel
theorem dX1_tryToDie_12 : decode cX1_tryToDie 12 = .ok (.getfield 30, 3) := by decide +kernel
theorem dX1_tryToDie_15 : decode cX1_tryToDie 15 = .ok (.iconst 1, 1) := by decide +kernel
theorem dX1_tryToDie_16 : decode cX1_tryToDie 16 = .ok (.iload_n 1, 1) := by decide +kernel
theorem dX1_tryToDie_17 : decode cX1_tryToDie 17 = .ok (.ishl, 1) := by decide +kernel
theorem dX1_tryToDie_18 : decode cX1_tryToDie 18 = .ok (.ior, 1) := by decide +kernel
theorem dX1_tryToDie_19 : decode cX1_tryToDie 19 = .ok (.putfield 30, 3) := by decide +kernel
theorem dX1_tryToDie_22 : decode cX1_tryToDie 22 = .ok (.aload_n 0, 1) := by decide +kernel
theorem dX1_tryToDie_23 : decode cX1_tryToDie 23 = .ok (.getfield 18, 3) := by decide +kernel
theorem dX1_tryToDie_26 : decode cX1_tryToDie 26 = .ok (.iload_n 1, 1) := by decide +kernel
theorem dX1_tryToDie_27 : decode cX1_tryToDie 27 = .ok (.iaload, 1) := by decide +kernel
theorem dX1_tryToDie_28 : decode cX1_tryToDie 28 = .ok (.ifCond .le 8, 3) := by decide +kernel
theorem dX1_tryToDie_31 : decode cX1_tryToDie 31 = .ok (.aload_n 0, 1) := by decide +kernel
theorem dX1_tryToDie_32 : decode cX1_tryToDie 32 = .ok (.iload_n 1, 1) := by decide +kernel
theorem dX1_tryToDie_33 : decode cX1_tryToDie 33 = .ok (.invokevirtual 119, 3) := by decide +kernel
theorem dX1_tryToDie_36 : decode cX1_tryToDie 36 = .ok (.iconst 0, 1) := by decide +kernel
theorem dX1_tryToDie_37 : decode cX1_tryToDie 37 = .ok (.ireturn, 1) := by decide +kernel
theorem dX1_tryToRefuse_0 : decode cX1_tryToRefuse 0 = .ok (.aload_n 0, 1) := by decide +kernel
theorem dX1_tryToRefuse_1 : decode cX1_tryToRefuse 1 = .ok (.iload_n 1, 1) := by decide +kernel
theorem dX1_tryToRefuse_2 : decode cX1_tryToRefuse 2 = .ok (.invokevirtual 115, 3) := by decide +kernel
theorem dX1_tryToRefuse_5 : decode cX1_tryToRefuse 5 = .ok (.ifCond .ne 5, 3) := by decide +kernel
theorem dX1_tryToRefuse_8 : decode cX1_tryToRefuse 8 = .ok (.iconst 1, 1) := by decide +kernel
theorem dX1_tryToRefuse_9 : decode cX1_tryToRefuse 9 = .ok (.ireturn, 1) := by decide +kernel
theorem dX1_tryToRefuse_10 : decode cX1_tryToRefuse 10 = .ok (.aload_n 0, 1) := by decide +kernel
theorem dX1_tryToRefuse_11 : decode cX1_tryToRefuse 11 = .ok (.getfield 34, 3) := by decide +kernel
theorem dX1_tryToRefuse_14 : decode cX1_tryToRefuse 14 = .ok (.iload_n 1, 1) := by decide +kernel
theorem dX1_tryToRefuse_15 : decode cX1_tryToRefuse 15 = .ok (.ishr, 1) := by decide +kernel
theorem dX1_tryToRefuse_16 : decode cX1_tryToRefuse 16 = .ok (.iconst 1, 1) := by decide +kernel
theorem dX1_tryToRefuse_17 : decode cX1_tryToRefuse 17 = .ok (.iand, 1) := by decide +kernel
theorem dX1_tryToRefuse_18 : decode cX1_tryToRefuse 18 = .ok (.ifCond .eq 5, 3) := by decide +kernel
theorem dX1_tryToRefuse_21 : decode cX1_tryToRefuse 21 = .ok (.iconst 2, 1) := by decide +kernel
theorem dX1_tryToRefuse_22 : decode cX1_tryToRefuse 22 = .ok (.ireturn, 1) := by decide +kernel
theorem dX1_tryToRefuse_23 : decode cX1_tryToRefuse 23 = .ok (.aload_n 0, 1) := by decide +kernel
theorem dX1_tryToRefuse_24 : decode cX1_tryToRefuse 24 = .ok (.dup, 1) := by decide +kernel
theorem dX1_tryToRefuse_25 : decode cX1_tryToRefuse 25 = .ok (.getfield 34, 3) := by decide +kernel
theorem dX1_tryToRefuse_28 : decode cX1_tryToRefuse 28 = .ok (.iconst 1, 1) := by decide +kernel
theorem dX1_tryToRefuse_29 : decode cX1_tryToRefuse 29 = .ok (.iload_n 1, 1) := by decide +kernel
theorem dX1_tryToRefuse_30 : decode cX1_tryToRefuse 30 = .ok (.ishl, 1) := by decide +kernel
theorem dX1_tryToRefuse_31 : decode cX1_tryToRefuse 31 = .ok (.ior, 1) := by decide +kernel
theorem dX1_tryToRefuse_32 : decode cX1_tryToRefuse 32 = .ok (.putfield 34, 3) := by decide +kernel
theorem dX1_tryToRefuse_35 : decode cX1_tryToRefuse 35 = .ok (.iconst 0, 1) := by decide +kernel
theorem dX1_tryToRefuse_36 : decode cX1_tryToRefuse 36 = .ok (.ireturn, 1) := by decide +kernel
theorem dX1_tryToRise_0 : decode cX1_tryToRise 0 = .ok (.aload_n 0, 1) := by decide +kernel
theorem dX1_tryToRise_1 : decode cX1_tryToRise 1 = .ok (.iload_n 1, 1) := by decide +kernel
theorem dX1_tryToRise_2 : decode cX1_tryToRise 2 = .ok (.invokevirtual 115, 3) := by decide +kernel
theorem dX1_tryToRise_5 : decode cX1_tryToRise 5 = .ok (.ifCond .ne 5, 3) := by decide +kernel
theorem dX1_tryToRise_8 : decode cX1_tryToRise 8 = .ok (.iconst 1, 1) := by decide +kernel
theorem dX1_tryToRise_9 : decode cX1_tryToRise 9 = .ok (.ireturn, 1) := by decide +kernel
theorem dX1_tryToRise_10 : decode cX1_tryToRise 10 = .ok (.aload_n 0, 1) := by decide +kernel
theorem dX1_tryToRise_11 : decode cX1_tryToRise 11 = .ok (.getfield 18, 3) := by decide +kernel
theorem dX1_tryToRise_14 : decode cX1_tryToRise 14 = .ok (.iload_n 1, 1) := by decide +kernel
theorem dX1_tryToRise_15 : decode cX1_tryToRise 15 = .ok (.iaload, 1) := by decide +kernel
theorem dX1_tryToRise_16 : decode cX1_tryToRise 16 = .ok (.ifCond .ne 5, 3) := by decide +kernel
theorem dX1_tryToRise_19 : decode cX1_tryToRise 19 = .ok (.iconst 2, 1) := by decide +kernel
theorem dX1_tryToRise_20 : decode cX1_tryToRise 20 = .ok (.ireturn, 1) := by decide +kernel
theorem dX1_tryToRise_21 : decode cX1_tryToRise 21 = .ok (.aload_n 0, 1) := by decide +kernel
theorem dX1_tryToRise_22 : decode cX1_tryToRise 22 = .ok (.iload_n 1, 1) := by decide +kernel
theorem dX1_tryToRise_23 : decode cX1_tryToRise 23 = .ok (.invokevirtual 119, 3) := by decide +kernel
theorem dX1_tryToRise_26 : decode cX1_tryToRise 26 = .ok (.iconst 0, 1) := by decide +kernel
theorem dX1_tryToRise_27 : decode cX1_tryToRise 27 = .ok (.ireturn, 1) := by decide +kernel
theorem dX8_childrenOf_0 : decode cX8_childrenOf 0 = .ok (.iconst 0, 1) := by decide +kernel
theorem dX8_childrenOf_1 : decode cX8_childrenOf 1 = .ok (.istore_n 2, 1) := by decide +kernel
theorem dX8_childrenOf_2 : decode cX8_childrenOf 2 = .ok (.iconst 0, 1) := by decide +kernel
theorem dX8_childrenOf_3 : decode cX8_childrenOf 3 = .ok (.istore_n 3, 1) := by decide +kernel
theorem dX8_childrenOf_4 : decode cX8_childrenOf 4 = .ok (.iload_n 3, 1) := by decide +kernel
theorem dX8_childrenOf_5 : decode cX8_childrenOf 5 = .ok (.aload_n 0, 1) := by decide +kernel
theorem dX8_childrenOf_6 : decode cX8_childrenOf 6 = .ok (.getfield 28, 3) := by decide +kernel
theorem dX8_childrenOf_9 : decode cX8_childrenOf 9 = .ok (.if_icmp .ge 25, 3) := by decide +kernel
theorem dX8_childrenOf_12 : decode cX8_childrenOf 12 = .ok (.aload_n 0, 1) := by decide +kernel
theorem dX8_childrenOf_13 : decode cX8_childrenOf 13 = .ok (.getfield 19, 3) := by decide +kernel
theorem dX8_childrenOf_16 : decode cX8_childrenOf 16 = .ok (.iload_n 3, 1) := by decide +kernel
theorem dX8_childrenOf_17 : decode cX8_childrenOf 17 = .ok (.iaload, 1) := by decide +kernel
theorem dX8_childrenOf_18 : decode cX8_childrenOf 18 = .ok (.iload_n 1, 1) := by decide +kernel
theorem dX8_childrenOf_19 : decode cX8_childrenOf 19 = .ok (.if_icmp .ne 9, 3) := by decide +kernel
theorem dX8_childrenOf_22 : decode cX8_childrenOf 22 = .ok (.iload_n 2, 1) := by decide +kernel
theorem dX8_childrenOf_23 : decode cX8_childrenOf 23 = .ok (.iconst 1, 1) := by decide +kernel
theorem dX8_childrenOf_24 : decode cX8_childrenOf 24 = .ok (.iload_n 3, 1) := by decide +kernel
theorem dX8_childrenOf_25 : decode cX8_childrenOf 25 = .ok (.ishl, 1) := by decide +kernel
theorem dX8_childrenOf_26 : decode cX8_childrenOf 26 = .ok (.ior, 1) := by decide +kernel
theorem dX8_childrenOf_27 : decode cX8_childrenOf 27 = .ok (.istore_n 2, 1) := by decide +kernel
theorem dX8_childrenOf_28 : decode cX8_childrenOf 28 = .ok (.iinc 3 1, 3) := by decide +kernel
theorem dX8_childrenOf_31 : decode cX8_childrenOf 31 = .ok (.goto (-27), 3) := by decide +kernel
theorem dX8_childrenOf_34 : decode cX8_childrenOf 34 = .ok (.iload_n 2, 1) := by decide +kernel
theorem dX8_childrenOf_35 : decode cX8_childrenOf 35 = .ok (.ireturn, 1) := by decide +kernel
set_option maxRecDepth 100000 in
set_option maxHeartbeats 8000000 in
theorem c_X1_firstBehind {l : Launch} {D : va_G} {cy : Nat → ClassId} {L : List Nat} {κ ln : Nat → Nat} {R : Nat → Nat → Option Nat} {I : Nat → Nat → Int32} {J : Nat → Nat → Int64} {ow : Nat → Nat × Nat} (W9 : ∀ a ∈ L, Shp L κ ln R ow a) {x : Nat} (hLx : x ∈ L) (hkx : κ x = 1) (a0 : Int32) (a1 : Int32) (ra0 : Rg 0 6 a0) (ra1 : Rg 1 127 a1) (hU : Iv L κ R ow I) : CtI l yX1_firstBehind cX1_firstBehind 5 (some .int) { frames := 0, cells := 0, slots := 0, locals := 0 } D cy L κ ln R I J [.ref x, .int a0, .int a1] (fun r I2 J2 => I = I2 ∧ J = J2 ∧ Rg (-1) 6 r) := by
  refine CtI.of (by decide +kernel) (Nat.le_of_ble_eq_true rfl) ?_
  intro p e s m below meth c B K
  have C := B.1
  obtain ⟨b_481855, hb_481855, hb_481855L, hb_481855k⟩ := shp_o (W9 x hLx) hkx 0 8 rfl (by decide)
  refine g_lo (is := [0, 1, 2]) (lo2 := [(0, .ref x), (1, .int a0), (2, .int a1)]) rfl ?_
  have l_5 : ∀ (n_5 : Nat) (v_481856 : Int32) (rv_481856 : Rg 0 6 v_481856) (v_481857 : Int32) (rv_481857 : Rg 1 127 v_481857) (v_481858 : Int32) (rv_481858 : Rg 0 6 v_481858) (v_481859 : Int32) (rv_481859 : Rg 1 7 v_481859) (hm_481860 : 7 < (v_481859 : Int32).toInt + (n_5 : Int)), WG p l e { frames := 0, cells := 0, slots := 0, locals := 0 } s m ([.ref x, .int a0, .int a1] : List Value).toArray below meth c 5 0 0 (MQ below (Qi_ D cy L κ ln R (fun r I2 J2 => I = I2 ∧ J = J2 ∧ Rg (-1) 6 r)) ([.ref x, .int a0, .int a1] : List Value).toArray s 0 0 (Al_ L)) D cy (Al_ L) s.heap L κ ln R I J 5 [(0, .ref x), (1, .int v_481856), (2, .int v_481857), (3, .int v_481858), (4, .int v_481859)] [] := by
    intro n_5
    induction n_5 with
    | zero =>
      intro v_481856 rv_481856 v_481857 rv_481857 v_481858 rv_481858 v_481859 rv_481859 hm_481860
      exact ms_0 rv_481859 hm_481860
    | succ n_5 ih_5 =>
      intro v_481856 rv_481856 v_481857 rv_481857 v_481858 rv_481858 v_481859 rv_481859 hm_481860
      refine g_iload C 4 dX1_firstBehind_5 rfl ?_
      refine g_aload_n C 0 dX1_firstBehind_7 rfl rfl ?_
      refine g_getR C K hLx hkx f_1_52 hb_481855 dX1_firstBehind_8 ?_
      obtain ⟨x_481861, hx_481861, rx_481861⟩ := ex_get (I := I) (a := b_481855) (j := 5) (lo := 0) (hi := 7) hU.1 hb_481855L (ro_o hb_481855k (by decide)) rfl
      refine g_getI C K hb_481855L hb_481855k f_1_68 (v := x_481861) hx_481861 dX1_firstBehind_11 ?_
      refine g_icmp_ge C (tgt := 54) dX1_firstBehind_14 (by decide) (fun h_481862 => ?_) (fun h_481862 => ?_)
      · skip
        refine g_iconst C (v := (-1)) dX1_firstBehind_54 (by decide) ?_
        exact g_zret (ty := .int) (r := (-1)) B K rfl (rfl) ⟨rfl, rfl, rg_w rc_m1 (by decide) (by decide)⟩ dX1_firstBehind_55
      · skip
        have r_481863 := lt_l (hi := 6) (nle h_481862) rv_481859 rx_481861 (by decide)
        have r_481864 := lt_r (lo := 2) (nle h_481862) rv_481859 rx_481861 (by decide)
        refine g_iload_n C 3 dX1_firstBehind_17 rfl rfl ?_
        refine g_iconst C (v := 1) dX1_firstBehind_18 (by decide) ?_
        obtain ⟨x_481865, hx_481865, rx_481865, tx_481865⟩ := ex_add 1 7 rv_481858 rc_1 (by decide) (by decide) (by decide) (by decide)
        refine g_iadd C (v := x_481865) dX1_firstBehind_19 hx_481865 ?_
        refine g_aload_n C 0 dX1_firstBehind_20 rfl rfl ?_
        refine g_getR C K hLx hkx f_1_52 hb_481855 dX1_firstBehind_21 ?_
        refine g_getI C K hb_481855L hb_481855k f_1_68 (v := x_481861) hx_481861 dX1_firstBehind_24 ?_
        refine g_icmp_ge C (tgt := 36) dX1_firstBehind_27 (by decide) (fun h_481866 => ?_) (fun h_481866 => ?_)
        · skip
          have r_481867 := le_r (h_481866) r_481864 rx_481865
          refine g_iconst C (v := 0) dX1_firstBehind_36 (by decide) ?_
          refine g_istore_n C dX1_firstBehind_37 rfl (by decide) (lo2 := [(3, .int 0), (0, .ref x), (1, .int v_481856), (2, .int v_481857), (4, .int v_481859)]) rfl ?_
          refine g_iload_n C 3 dX1_firstBehind_38 rfl rfl ?_
          refine g_iload_n C 0 dX1_firstBehind_39 rfl rfl ?_
          obtain ⟨x_481868, hx_481868, rx_481868⟩ := ex_shr (x := v_481857) (y := 0) (b := 127) (rg_w rv_481857 (by decide) (by decide))
          refine g_ishr C (v := x_481868) dX1_firstBehind_40 hx_481868 ?_
          refine g_iconst C (v := 1) dX1_firstBehind_41 (by decide) ?_
          obtain ⟨x_481869, hx_481869, rx_481869⟩ := ex_andr (x := x_481868) (y := 1) (b := 1) (rg_w rc_1 (by decide) (by decide))
          refine g_iand C (v := x_481869) dX1_firstBehind_42 hx_481869 ?_
          refine g_if_eq C (tgt := 48) dX1_firstBehind_43 (by decide) (fun h_481870 => ?_) (fun h_481870 => ?_)
          · skip
            have r_481871 := (⟨(rx_481869).1, (eq_rg (h_481870) rc_0).2⟩ : Rg 0 0 x_481869)
            obtain ⟨x_481872, hx_481872, rx_481872, tx_481872⟩ := ex_add (y := 1) 2 7 r_481863 rc_1 (by decide) (by decide) (by decide) (by decide)
            refine g_iinc C dX1_firstBehind_48 (k := 4) (v := x_481872) rfl hx_481872 (by decide) (lo2 := [(4, .int x_481872), (3, .int 0), (0, .ref x), (1, .int v_481856), (2, .int v_481857)]) rfl ?_
            refine g_goto C (tgt := 5) dX1_firstBehind_51 (by decide) ?_
            refine g_lo (is := [2, 3, 4, 1, 0]) (lo2 := [(0, .ref x), (1, .int v_481856), (2, .int v_481857), (3, .int 0), (4, .int x_481872)]) rfl ?_
            exact ih_5 v_481856 (rv_481856) v_481857 (rv_481857) 0 (rg_w rc_0 (by decide) (by decide)) x_481872 (rg_w rx_481872 (by decide) (by decide)) (ms_1 hm_481860 (ti_k tx_481872 rc_1) (by decide))
          · skip
            have n_481873 : ¬ x_481869 = 0 := h_481870
            have r_481874 := ne_lo (lo := 1) n_481873 rx_481869 rc_0 rfl (by decide)
            refine g_iload_n C 0 dX1_firstBehind_46 rfl rfl ?_
            exact g_zret (ty := .int) (r := 0) B K rfl (rfl) ⟨rfl, rfl, rg_w rc_0 (by decide) (by decide)⟩ dX1_firstBehind_47
        · skip
          have r_481875 := lt_l (hi := 6) (nle h_481866) rx_481865 r_481864 (by decide)
          refine g_iload_n C 3 dX1_firstBehind_30 rfl rfl ?_
          refine g_iconst C (v := 1) dX1_firstBehind_31 (by decide) ?_
          refine g_iadd C (v := x_481865) dX1_firstBehind_32 hx_481865 ?_
          refine g_goto C (tgt := 37) dX1_firstBehind_33 (by decide) ?_
          refine g_istore_n C dX1_firstBehind_37 rfl (by decide) (lo2 := [(3, .int x_481865), (0, .ref x), (1, .int v_481856), (2, .int v_481857), (4, .int v_481859)]) rfl ?_
          refine g_iload_n C 3 dX1_firstBehind_38 rfl rfl ?_
          refine g_iload_n C 0 dX1_firstBehind_39 rfl rfl ?_
          obtain ⟨x_481876, hx_481876, rx_481876⟩ := ex_shr (x := v_481857) (y := x_481865) (b := 127) (rg_w rv_481857 (by decide) (by decide))
          refine g_ishr C (v := x_481876) dX1_firstBehind_40 hx_481876 ?_
          refine g_iconst C (v := 1) dX1_firstBehind_41 (by decide) ?_
          obtain ⟨x_481877, hx_481877, rx_481877⟩ := ex_andr (x := x_481876) (y := 1) (b := 1) (rg_w rc_1 (by decide) (by decide))
          refine g_iand C (v := x_481877) dX1_firstBehind_42 hx_481877 ?_
          refine g_if_eq C (tgt := 48) dX1_firstBehind_43 (by decide) (fun h_481878 => ?_) (fun h_481878 => ?_)
          · skip
            have r_481879 := (⟨(rx_481877).1, (eq_rg (h_481878) rc_0).2⟩ : Rg 0 0 x_481877)
            obtain ⟨x_481880, hx_481880, rx_481880, tx_481880⟩ := ex_add (y := 1) 2 7 r_481863 rc_1 (by decide) (by decide) (by decide) (by decide)
            refine g_iinc C dX1_firstBehind_48 (k := 4) (v := x_481880) rfl hx_481880 (by decide) (lo2 := [(4, .int x_481880), (3, .int x_481865), (0, .ref x), (1, .int v_481856), (2, .int v_481857)]) rfl ?_
            refine g_goto C (tgt := 5) dX1_firstBehind_51 (by decide) ?_
            refine g_lo (is := [2, 3, 4, 1, 0]) (lo2 := [(0, .ref x), (1, .int v_481856), (2, .int v_481857), (3, .int x_481865), (4, .int x_481880)]) rfl ?_
            exact ih_5 v_481856 (rv_481856) v_481857 (rv_481857) x_481865 (rg_w r_481875 (by decide) (by decide)) x_481880 (rg_w rx_481880 (by decide) (by decide)) (ms_1 hm_481860 (ti_k tx_481880 rc_1) (by decide))
          · skip
            have n_481881 : ¬ x_481877 = 0 := h_481878
            have r_481882 := ne_lo (lo := 1) n_481881 rx_481877 rc_0 rfl (by decide)
            refine g_iload_n C 0 dX1_firstBehind_46 rfl rfl ?_
            exact g_zret (ty := .int) (r := x_481865) B K rfl (rfl) ⟨rfl, rfl, rg_w r_481875 (by decide) (by decide)⟩ dX1_firstBehind_47
  refine g_iload_n C 1 dX1_firstBehind_0 rfl rfl ?_
  refine g_istore_n C dX1_firstBehind_1 rfl (by decide) (lo2 := [(3, .int a0), (0, .ref x), (1, .int a0), (2, .int a1)]) rfl ?_
  refine g_iconst C (v := 1) dX1_firstBehind_2 (by decide) ?_
  refine g_istore C dX1_firstBehind_3 (by decide) (lo2 := [(4, .int 1), (3, .int a0), (0, .ref x), (1, .int a0), (2, .int a1)]) rfl ?_
  refine g_lo (is := [2, 3, 4, 1, 0]) (lo2 := [(0, .ref x), (1, .int a0), (2, .int a1), (3, .int a0), (4, .int 1)]) rfl ?_
  exact l_5 7 a0 (ra0) a1 (ra1) a0 (ra0) 1 (rg_w rc_1 (by decide) (by decide)) (ms_s (a := 1) (b := 7) (N := 7) (rg_w rc_1 (by decide) (by decide)) (by decide))
set_option maxRecDepth 100000 in
set_option maxHeartbeats 8000000 in
theorem c_X1_leastFed {l : Launch} {D : va_G} {cy : Nat → ClassId} {L : List Nat} {κ ln : Nat → Nat} {R : Nat → Nat → Option Nat} {I : Nat → Nat → Int32} {J : Nat → Nat → Int64} {ow : Nat → Nat × Nat} (W9 : ∀ a ∈ L, Shp L κ ln R ow a) {x : Nat} (hLx : x ∈ L) (hkx : κ x = 1) (a0 : Int32) (ra0 : Rg 0 127 a0) (hU : Iv L κ R ow I) : CtI l yX1_leastFed cX1_leastFed 4 (some .int) { frames := 0, cells := 0, slots := 0, locals := 0 } D cy L κ ln R I J [.ref x, .int a0] (fun r I2 J2 => I = I2 ∧ J = J2 ∧ Rg (-1) 6 r) := by
  refine CtI.of (by decide +kernel) (Nat.le_of_ble_eq_true rfl) ?_
  intro p e s m below meth c B K
  have C := B.1
  obtain ⟨b_482055, hb_482055, hb_482055L, hb_482055k, hb_482055n, hb_482055o⟩ := shp_a (W9 x hLx) hkx 4 14 7 rfl (by decide)
  obtain ⟨b_482056, hb_482056, hb_482056L, hb_482056k⟩ := shp_o (W9 x hLx) hkx 0 8 rfl (by decide)
  refine g_lo (is := [0, 1]) (lo2 := [(0, .ref x), (1, .int a0)]) rfl ?_
  have l_4 : ∀ (n_4 : Nat) (v_482057 : Int32) (rv_482057 : Rg 0 127 v_482057) (v_482058 : Int32) (rv_482058 : Rg (-1) 6 v_482058) (v_482059 : Int32) (rv_482059 : Rg 0 7 v_482059) (hm_482060 : 7 < (v_482059 : Int32).toInt + (n_4 : Int)), WG p l e { frames := 0, cells := 0, slots := 0, locals := 0 } s m ([.ref x, .int a0] : List Value).toArray below meth c 4 0 0 (MQ below (Qi_ D cy L κ ln R (fun r I2 J2 => I = I2 ∧ J = J2 ∧ Rg (-1) 6 r)) ([.ref x, .int a0] : List Value).toArray s 0 0 (Al_ L)) D cy (Al_ L) s.heap L κ ln R I J 4 [(0, .ref x), (1, .int v_482057), (2, .int v_482058), (3, .int v_482059)] [] := by
    intro n_4
    induction n_4 with
    | zero =>
      intro v_482057 rv_482057 v_482058 rv_482058 v_482059 rv_482059 hm_482060
      exact ms_0 rv_482059 hm_482060
    | succ n_4 ih_4 =>
      intro v_482057 rv_482057 v_482058 rv_482058 v_482059 rv_482059 hm_482060
      have j_45 : ∀ (v_482061 : Int32) (rv_482061 : Rg 0 127 v_482061) (v_482062 : Int32) (rv_482062 : Rg (-1) 6 v_482062) (v_482063 : Int32) (rv_482063 : Rg 0 6 v_482063) (v_482064 : Int32) (rv_482064 : Rg 1 7 v_482064) (q_482065 : I b_482056 5 = v_482064) (hm_482066 : 7 < (v_482063 : Int32).toInt + ((n_4 + 1 : Nat) : Int)), WG p l e { frames := 0, cells := 0, slots := 0, locals := 0 } s m ([.ref x, .int a0] : List Value).toArray below meth c 4 0 0 (MQ below (Qi_ D cy L κ ln R (fun r I2 J2 => I = I2 ∧ J = J2 ∧ Rg (-1) 6 r)) ([.ref x, .int a0] : List Value).toArray s 0 0 (Al_ L)) D cy (Al_ L) s.heap L κ ln R I J 45 [(0, .ref x), (1, .int v_482061), (2, .int v_482062), (3, .int v_482063)] [] := by
        intro v_482061 rv_482061 v_482062 rv_482062 v_482063 rv_482063 v_482064 rv_482064 q_482065 hm_482066
        obtain ⟨x_482067, hx_482067, rx_482067, tx_482067⟩ := ex_add (y := 1) 1 7 rv_482063 rc_1 (by decide) (by decide) (by decide) (by decide)
        refine g_iinc C dX1_leastFed_45 (k := 3) (v := x_482067) rfl hx_482067 (by decide) (lo2 := [(3, .int x_482067), (0, .ref x), (1, .int v_482061), (2, .int v_482062)]) rfl ?_
        refine g_goto C (tgt := 4) dX1_leastFed_48 (by decide) ?_
        refine g_lo (is := [1, 2, 3, 0]) (lo2 := [(0, .ref x), (1, .int v_482061), (2, .int v_482062), (3, .int x_482067)]) rfl ?_
        exact ih_4 v_482061 (rv_482061) v_482062 (rv_482062) x_482067 (rg_w rx_482067 (by decide) (by decide)) (ms_1 hm_482066 (ti_k tx_482067 rc_1) (by decide))
      have j_43 : ∀ (v_482068 : Int32) (rv_482068 : Rg 0 127 v_482068) (v_482069 : Int32) (rv_482069 : Rg (-1) 6 v_482069) (v_482070 : Int32) (rv_482070 : Rg 0 6 v_482070) (v_482071 : Int32) (rv_482071 : Rg 1 7 v_482071) (q_482072 : I b_482056 5 = v_482071) (hm_482073 : 7 < (v_482070 : Int32).toInt + ((n_4 + 1 : Nat) : Int)), WG p l e { frames := 0, cells := 0, slots := 0, locals := 0 } s m ([.ref x, .int a0] : List Value).toArray below meth c 4 0 0 (MQ below (Qi_ D cy L κ ln R (fun r I2 J2 => I = I2 ∧ J = J2 ∧ Rg (-1) 6 r)) ([.ref x, .int a0] : List Value).toArray s 0 0 (Al_ L)) D cy (Al_ L) s.heap L κ ln R I J 43 [(0, .ref x), (1, .int v_482068), (2, .int v_482069), (3, .int v_482070)] [] := by
        intro v_482068 rv_482068 v_482069 rv_482069 v_482070 rv_482070 v_482071 rv_482071 q_482072 hm_482073
        refine g_iload_n C 3 dX1_leastFed_43 rfl rfl ?_
        refine g_istore_n C dX1_leastFed_44 rfl (by decide) (lo2 := [(2, .int v_482070), (0, .ref x), (1, .int v_482068), (3, .int v_482070)]) rfl ?_
        refine g_lo (is := [1, 2, 0, 3]) (lo2 := [(0, .ref x), (1, .int v_482068), (2, .int v_482070), (3, .int v_482070)]) rfl ?_
        exact j_45 v_482068 (rv_482068) v_482070 (rg_w rv_482070 (by decide) (by decide)) v_482070 (rv_482070) v_482071 (rv_482071) q_482072 hm_482073
      refine g_iload_n C 3 dX1_leastFed_4 rfl rfl ?_
      refine g_aload_n C 0 dX1_leastFed_5 rfl rfl ?_
      refine g_getR C K hLx hkx f_1_52 hb_482056 dX1_leastFed_6 ?_
      obtain ⟨x_482074, hx_482074, rx_482074⟩ := ex_get (I := I) (a := b_482056) (j := 5) (lo := 0) (hi := 7) hU.1 hb_482056L (ro_o hb_482056k (by decide)) rfl
      refine g_getI C K hb_482056L hb_482056k f_1_68 (v := x_482074) hx_482074 dX1_leastFed_9 ?_
      refine g_icmp_ge C (tgt := 51) dX1_leastFed_12 (by decide) (fun h_482075 => ?_) (fun h_482075 => ?_)
      · skip
        refine g_iload_n C 2 dX1_leastFed_51 rfl rfl ?_
        exact g_zret (ty := .int) (r := v_482058) B K rfl (rfl) ⟨rfl, rfl, rv_482058⟩ dX1_leastFed_52
      · skip
        have r_482076 := lt_l (hi := 6) (nle h_482075) rv_482059 rx_482074 (by decide)
        have r_482077 := lt_r (lo := 1) (nle h_482075) rv_482059 rx_482074 (by decide)
        refine g_iload_n C 1 dX1_leastFed_15 rfl rfl ?_
        refine g_iload_n C 3 dX1_leastFed_16 rfl rfl ?_
        obtain ⟨x_482078, hx_482078, rx_482078⟩ := ex_shr (x := v_482057) (y := v_482059) (b := 127) (rv_482057)
        refine g_ishr C (v := x_482078) dX1_leastFed_17 hx_482078 ?_
        refine g_iconst C (v := 1) dX1_leastFed_18 (by decide) ?_
        obtain ⟨x_482079, hx_482079, rx_482079⟩ := ex_andr (x := x_482078) (y := 1) (b := 1) (rg_w rc_1 (by decide) (by decide))
        refine g_iand C (v := x_482079) dX1_leastFed_19 hx_482079 ?_
        refine g_if_eq C (tgt := 45) dX1_leastFed_20 (by decide) (fun h_482080 => ?_) (fun h_482080 => ?_)
        · skip
          have r_482081 := (⟨(rx_482079).1, (eq_rg (h_482080) rc_0).2⟩ : Rg 0 0 x_482079)
          refine g_lo (is := [0, 1, 2, 3]) (lo2 := [(0, .ref x), (1, .int v_482057), (2, .int v_482058), (3, .int v_482059)]) rfl ?_
          exact j_45 v_482057 (rv_482057) v_482058 (rv_482058) v_482059 (r_482076) x_482074 (r_482077) hx_482074 hm_482060
        · skip
          have n_482082 : ¬ x_482079 = 0 := h_482080
          have r_482083 := ne_lo (lo := 1) n_482082 rx_482079 rc_0 rfl (by decide)
          refine g_iload_n C 2 dX1_leastFed_23 rfl rfl ?_
          refine g_iconst C (v := (-1)) dX1_leastFed_24 (by decide) ?_
          refine g_icmp_eq C (tgt := 43) dX1_leastFed_25 (by decide) (fun h_482084 => ?_) (fun h_482084 => ?_)
          · skip
            have r_482085 := (⟨(rv_482058).1, (eq_rg (h_482084) rc_m1).2⟩ : Rg (-1) (-1) v_482058)
            refine g_lo (is := [0, 1, 2, 3]) (lo2 := [(0, .ref x), (1, .int v_482057), (2, .int v_482058), (3, .int v_482059)]) rfl ?_
            exact j_43 v_482057 (rv_482057) v_482058 (rg_w r_482085 (by decide) (by decide)) v_482059 (r_482076) x_482074 (r_482077) hx_482074 hm_482060
          · skip
            have n_482086 : ¬ v_482058 = (-1) := h_482084
            have r_482087 := ne_lo (lo := 0) n_482086 rv_482058 rc_m1 rfl (by decide)
            refine g_aload_n C 0 dX1_leastFed_28 rfl rfl ?_
            refine g_getR C K hLx hkx f_1_21 hb_482055 dX1_leastFed_29 ?_
            refine g_iload_n C 3 dX1_leastFed_32 rfl rfl ?_
            obtain ⟨x_482088, hx_482088, rx_482088⟩ := ex_get (I := I) (a := b_482055) (j := v_482059.toNatClampNeg) (lo := (-2147483648)) (hi := 2147483647) hU.1 hb_482055L (ro_a hb_482055k (by decide) hb_482055o hkx rfl) (rfl)
            refine h_iald C K hb_482055L hb_482055k (v := x_482088) (v_482059.toNatClampNeg) (rfl) (ix_0 r_482076 (by decide)) (ix_lt r_482076 (by decide) hb_482055n (by decide)) hx_482088 dX1_leastFed_33 ?_
            refine g_aload_n C 0 dX1_leastFed_34 rfl rfl ?_
            refine g_getR C K hLx hkx f_1_21 hb_482055 dX1_leastFed_35 ?_
            refine g_iload_n C 2 dX1_leastFed_38 rfl rfl ?_
            obtain ⟨x_482089, hx_482089, rx_482089⟩ := ex_get (I := I) (a := b_482055) (j := v_482058.toNatClampNeg) (lo := (-2147483648)) (hi := 2147483647) hU.1 hb_482055L (ro_a hb_482055k (by decide) hb_482055o hkx rfl) (rfl)
            refine h_iald C K hb_482055L hb_482055k (v := x_482089) (v_482058.toNatClampNeg) (rfl) (ix_0 r_482087 (by decide)) (ix_lt r_482087 (by decide) hb_482055n (by decide)) hx_482089 dX1_leastFed_39 ?_
            refine g_icmp_ge C (tgt := 45) dX1_leastFed_40 (by decide) (fun h_482090 => ?_) (fun h_482090 => ?_)
            · skip
              refine g_lo (is := [0, 1, 2, 3]) (lo2 := [(0, .ref x), (1, .int v_482057), (2, .int v_482058), (3, .int v_482059)]) rfl ?_
              exact j_45 v_482057 (rv_482057) v_482058 (rg_w r_482087 (by decide) (by decide)) v_482059 (r_482076) x_482074 (r_482077) hx_482074 hm_482060
            · skip
              have r_482091 := lt_l (hi := 2147483646) (nle h_482090) rx_482088 rx_482089 (by decide)
              have r_482092 := lt_r (lo := (-2147483647)) (nle h_482090) rx_482088 rx_482089 (by decide)
              refine g_lo (is := [0, 1, 2, 3]) (lo2 := [(0, .ref x), (1, .int v_482057), (2, .int v_482058), (3, .int v_482059)]) rfl ?_
              exact j_43 v_482057 (rv_482057) v_482058 (rg_w r_482087 (by decide) (by decide)) v_482059 (r_482076) x_482074 (r_482077) hx_482074 hm_482060
  refine g_iconst C (v := (-1)) dX1_leastFed_0 (by decide) ?_
  refine g_istore_n C dX1_leastFed_1 rfl (by decide) (lo2 := [(2, .int (-1)), (0, .ref x), (1, .int a0)]) rfl ?_
  refine g_iconst C (v := 0) dX1_leastFed_2 (by decide) ?_
  refine g_istore_n C dX1_leastFed_3 rfl (by decide) (lo2 := [(3, .int 0), (2, .int (-1)), (0, .ref x), (1, .int a0)]) rfl ?_
  refine g_lo (is := [2, 3, 1, 0]) (lo2 := [(0, .ref x), (1, .int a0), (2, .int (-1)), (3, .int 0)]) rfl ?_
  exact l_4 8 a0 (ra0) (-1) (rg_w rc_m1 (by decide) (by decide)) 0 (rg_w rc_0 (by decide) (by decide)) (ms_s (a := 0) (b := 7) (N := 8) (rg_w rc_0 (by decide) (by decide)) (by decide))
set_option maxRecDepth 100000 in
set_option maxHeartbeats 8000000 in
theorem c_X8_childrenOf {l : Launch} {D : va_G} {cy : Nat → ClassId} {L : List Nat} {κ ln : Nat → Nat} {R : Nat → Nat → Option Nat} {I : Nat → Nat → Int32} {J : Nat → Nat → Int64} {ow : Nat → Nat × Nat} (W9 : ∀ a ∈ L, Shp L κ ln R ow a) {x : Nat} (hLx : x ∈ L) (hkx : κ x = 8) (a0 : Int32) (ra0 : Rg 0 6 a0) (hU : Iv L κ R ow I) : CtI l yX8_childrenOf cX8_childrenOf 4 (some .int) { frames := 0, cells := 0, slots := 0, locals := 0 } D cy L κ ln R I J [.ref x, .int a0] (fun r I2 J2 => I = I2 ∧ J = J2 ∧ Rg 0 127 r) := by
  refine CtI.of (by decide +kernel) (Nat.le_of_ble_eq_true rfl) ?_
  intro p e s m below meth c B K
  have C := B.1
  obtain ⟨b_482180, hb_482180, hb_482180L, hb_482180k, hb_482180n, hb_482180o⟩ := shp_a (W9 x hLx) hkx 2 14 7 rfl (by decide)
  refine g_lo (is := [0, 1]) (lo2 := [(0, .ref x), (1, .int a0)]) rfl ?_
  have l_4 : ∀ (n_4 : Nat) (v_482181 : Int32) (rv_482181 : Rg 0 6 v_482181) (v_482182 : Int32) (rv_482182 : Rg 0 127 v_482182) (v_482183 : Int32) (rv_482183 : Rg 0 7 v_482183) (hm_482184 : 7 < (v_482183 : Int32).toInt + (n_4 : Int)), WG p l e { frames := 0, cells := 0, slots := 0, locals := 0 } s m ([.ref x, .int a0] : List Value).toArray below meth c 4 0 0 (MQ below (Qi_ D cy L κ ln R (fun r I2 J2 => I = I2 ∧ J = J2 ∧ Rg 0 127 r)) ([.ref x, .int a0] : List Value).toArray s 0 0 (Al_ L)) D cy (Al_ L) s.heap L κ ln R I J 4 [(0, .ref x), (1, .int v_482181), (2, .int v_482182), (3, .int v_482183)] [] := by
    intro n_4
    induction n_4 with
    | zero =>
      intro v_482181 rv_482181 v_482182 rv_482182 v_482183 rv_482183 hm_482184
      exact ms_0 rv_482183 hm_482184
    | succ n_4 ih_4 =>
      intro v_482181 rv_482181 v_482182 rv_482182 v_482183 rv_482183 hm_482184
      have j_28 : ∀ (v_482185 : Int32) (rv_482185 : Rg 0 6 v_482185) (v_482186 : Int32) (rv_482186 : Rg 0 127 v_482186) (v_482187 : Int32) (rv_482187 : Rg 0 6 v_482187) (v_482188 : Int32) (rv_482188 : Rg 1 7 v_482188) (q_482189 : I x 5 = v_482188) (hm_482190 : 7 < (v_482187 : Int32).toInt + ((n_4 + 1 : Nat) : Int)), WG p l e { frames := 0, cells := 0, slots := 0, locals := 0 } s m ([.ref x, .int a0] : List Value).toArray below meth c 4 0 0 (MQ below (Qi_ D cy L κ ln R (fun r I2 J2 => I = I2 ∧ J = J2 ∧ Rg 0 127 r)) ([.ref x, .int a0] : List Value).toArray s 0 0 (Al_ L)) D cy (Al_ L) s.heap L κ ln R I J 28 [(0, .ref x), (1, .int v_482185), (2, .int v_482186), (3, .int v_482187)] [] := by
        intro v_482185 rv_482185 v_482186 rv_482186 v_482187 rv_482187 v_482188 rv_482188 q_482189 hm_482190
        obtain ⟨x_482191, hx_482191, rx_482191, tx_482191⟩ := ex_add (y := 1) 1 7 rv_482187 rc_1 (by decide) (by decide) (by decide) (by decide)
        refine g_iinc C dX8_childrenOf_28 (k := 3) (v := x_482191) rfl hx_482191 (by decide) (lo2 := [(3, .int x_482191), (0, .ref x), (1, .int v_482185), (2, .int v_482186)]) rfl ?_
        refine g_goto C (tgt := 4) dX8_childrenOf_31 (by decide) ?_
        refine g_lo (is := [1, 2, 3, 0]) (lo2 := [(0, .ref x), (1, .int v_482185), (2, .int v_482186), (3, .int x_482191)]) rfl ?_
        exact ih_4 v_482185 (rv_482185) v_482186 (rv_482186) x_482191 (rg_w rx_482191 (by decide) (by decide)) (ms_1 hm_482190 (ti_k tx_482191 rc_1) (by decide))
      refine g_iload_n C 3 dX8_childrenOf_4 rfl rfl ?_
      refine g_aload_n C 0 dX8_childrenOf_5 rfl rfl ?_
      obtain ⟨x_482192, hx_482192, rx_482192⟩ := ex_get (I := I) (a := x) (j := 5) (lo := 0) (hi := 7) hU.1 hLx (ro_o hkx (by decide)) rfl
      refine g_getI C K hLx hkx f_8_28 (v := x_482192) hx_482192 dX8_childrenOf_6 ?_
      refine g_icmp_ge C (tgt := 34) dX8_childrenOf_9 (by decide) (fun h_482193 => ?_) (fun h_482193 => ?_)
      · skip
        refine g_iload_n C 2 dX8_childrenOf_34 rfl rfl ?_
        exact g_zret (ty := .int) (r := v_482182) B K rfl (rfl) ⟨rfl, rfl, rv_482182⟩ dX8_childrenOf_35
      · skip
        have r_482194 := lt_l (hi := 6) (nle h_482193) rv_482183 rx_482192 (by decide)
        have r_482195 := lt_r (lo := 1) (nle h_482193) rv_482183 rx_482192 (by decide)
        refine g_aload_n C 0 dX8_childrenOf_12 rfl rfl ?_
        refine g_getR C K hLx hkx f_8_19 hb_482180 dX8_childrenOf_13 ?_
        refine g_iload_n C 3 dX8_childrenOf_16 rfl rfl ?_
        obtain ⟨x_482196, hx_482196, rx_482196⟩ := ex_get (I := I) (a := b_482180) (j := v_482183.toNatClampNeg) (lo := (-1)) (hi := 6) hU.1 hb_482180L (ro_a hb_482180k (by decide) hb_482180o hkx rfl) (rfl)
        refine h_iald C K hb_482180L hb_482180k (v := x_482196) (v_482183.toNatClampNeg) (rfl) (ix_0 r_482194 (by decide)) (ix_lt r_482194 (by decide) hb_482180n (by decide)) hx_482196 dX8_childrenOf_17 ?_
        refine g_iload_n C 1 dX8_childrenOf_18 rfl rfl ?_
        refine g_icmp_ne C (tgt := 28) dX8_childrenOf_19 (by decide) (fun h_482197 => ?_) (fun h_482197 => ?_)
        · skip
          refine g_lo (is := [0, 1, 2, 3]) (lo2 := [(0, .ref x), (1, .int v_482181), (2, .int v_482182), (3, .int v_482183)]) rfl ?_
          exact j_28 v_482181 (rv_482181) v_482182 (rv_482182) v_482183 (r_482194) x_482192 (r_482195) hx_482192 hm_482184
        · skip
          have r_482198 := (⟨(eq_rg (h_482197) rv_482181).1, (rx_482196).2⟩ : Rg 0 6 x_482196)
          refine g_iload_n C 2 dX8_childrenOf_22 rfl rfl ?_
          refine g_iconst C (v := 1) dX8_childrenOf_23 (by decide) ?_
          refine g_iload_n C 3 dX8_childrenOf_24 rfl rfl ?_
          obtain ⟨x_482199, hx_482199, rx_482199⟩ := ex_shl (x := 1) (y := v_482183) 6 64 rfl (r_482194) (by decide)
          refine g_ishl C (v := x_482199) dX8_childrenOf_25 hx_482199 ?_
          obtain ⟨x_482200, hx_482200, rx_482200⟩ := ex_or 7 (x := v_482182) (y := x_482199) (b := 127) (c := 64) (rv_482182) (rg_w rx_482199 (by decide) (by decide)) (by decide) (by decide) (by decide) 127 (by decide)
          refine g_ior C (v := x_482200) dX8_childrenOf_26 hx_482200 ?_
          refine g_istore_n C dX8_childrenOf_27 rfl (by decide) (lo2 := [(2, .int x_482200), (0, .ref x), (1, .int v_482181), (3, .int v_482183)]) rfl ?_
          refine g_lo (is := [1, 2, 0, 3]) (lo2 := [(0, .ref x), (1, .int v_482181), (2, .int x_482200), (3, .int v_482183)]) rfl ?_
          exact j_28 v_482181 (rv_482181) x_482200 (rx_482200) v_482183 (r_482194) x_482192 (r_482195) hx_482192 hm_482184
  refine g_iconst C (v := 0) dX8_childrenOf_0 (by decide) ?_
  refine g_istore_n C dX8_childrenOf_1 rfl (by decide) (lo2 := [(2, .int 0), (0, .ref x), (1, .int a0)]) rfl ?_
  refine g_iconst C (v := 0) dX8_childrenOf_2 (by decide) ?_
  refine g_istore_n C dX8_childrenOf_3 rfl (by decide) (lo2 := [(3, .int 0), (2, .int 0), (0, .ref x), (1, .int a0)]) rfl ?_
  refine g_lo (is := [2, 3, 1, 0]) (lo2 := [(0, .ref x), (1, .int a0), (2, .int 0), (3, .int 0)]) rfl ?_
  exact l_4 8 a0 (ra0) 0 (rg_w rc_0 (by decide) (by decide)) 0 (rg_w rc_0 (by decide) (by decide)) (ms_s (a := 0) (b := 7) (N := 8) (rg_w rc_0 (by decide) (by decide)) (by decide))
set_option maxRecDepth 100000 in
set_option maxHeartbeats 8000000 in
theorem c_X1_heirOf {l : Launch} {D : va_G} {cy : Nat → ClassId} {L : List Nat} {κ ln : Nat → Nat} {R : Nat → Nat → Option Nat} {I : Nat → Nat → Int32} {J : Nat → Nat → Int64} {ow : Nat → Nat × Nat} (W9 : ∀ a ∈ L, Shp L κ ln R ow a) {x : Nat} (hLx : x ∈ L) (hkx : κ x = 1) (a0 : Int32) (a1 : Int32) (ra0 : Rg 0 6 a0) (hU : Iv L κ R ow I) : CtI l yX1_heirOf cX1_heirOf 5 (some .int) { frames := 1, cells := 0, slots := 0, locals := 24 } D cy L κ ln R I J [.ref x, .int a0, .int a1] (fun r I2 J2 => I = I2 ∧ J = J2 ∧ Rg (-1) 6 r) := by
  refine CtI.of (by decide +kernel) (Nat.le_of_ble_eq_true rfl) ?_
  intro p e s m below meth c B K
  have C := B.1
  obtain ⟨b_482293, hb_482293, hb_482293L, hb_482293k⟩ := shp_o (W9 x hLx) hkx 0 8 rfl (by decide)
  refine g_lo (is := [0, 1, 2]) (lo2 := [(0, .ref x), (1, .int a0), (2, .int a1)]) rfl ?_
  refine g_aload_n C 0 dX1_heirOf_0 rfl rfl ?_
  refine g_getR C K hLx hkx f_1_52 hb_482293 dX1_heirOf_1 ?_
  refine g_callVI C K (c_X8_everybody W9 hb_482293L hb_482293k   hU) hb_482293L hb_482293k (by decide) rfl v_1_62 rfl ⟨rfl, rfl⟩ ⟨Nat.le_of_ble_eq_true rfl, Nat.le_of_ble_eq_true rfl⟩ (Nat.le_of_ble_eq_true rfl) ⟨Nat.le_of_ble_eq_true rfl, Nat.le_of_ble_eq_true rfl⟩ dX1_heirOf_4 rfl (st := []) (fun x_482294 I_482295 J_482296 h_482297 => ?_)
  obtain ⟨rfl, rfl, rx_482294⟩ := h_482297
  refine g_aload_n C 0 dX1_heirOf_7 rfl rfl ?_
  obtain ⟨x_482298, hx_482298, rx_482298⟩ := ex_get (I := I) (a := x) (j := 7) (lo := (-2147483648)) (hi := 2147483647) hU.1 hLx (ro_o hkx (by decide)) rfl
  refine g_getI C K hLx hkx f_1_30 (v := x_482298) hx_482298 dX1_heirOf_8 ?_
  refine g_iconst C (v := (-1)) dX1_heirOf_11 (by decide) ?_
  obtain ⟨x_482299, hx_482299, rx_482299⟩ := ex_any (z0 := x_482298 ^^^ (-1))
  refine g_ixor C (v := x_482299) dX1_heirOf_12 hx_482299 ?_
  obtain ⟨x_482300, hx_482300, rx_482300⟩ := ex_andl (x := x_482294) (y := x_482299) (b := 127) (rx_482294)
  refine g_iand C (v := x_482300) dX1_heirOf_13 hx_482300 ?_
  refine g_iload_n C 2 dX1_heirOf_14 rfl rfl ?_
  refine g_iconst C (v := (-1)) dX1_heirOf_15 (by decide) ?_
  obtain ⟨x_482301, hx_482301, rx_482301⟩ := ex_any (z0 := a1 ^^^ (-1))
  refine g_ixor C (v := x_482301) dX1_heirOf_16 hx_482301 ?_
  obtain ⟨x_482302, hx_482302, rx_482302⟩ := ex_andl (x := x_482300) (y := x_482301) (b := 127) (rx_482300)
  refine g_iand C (v := x_482302) dX1_heirOf_17 hx_482302 ?_
  refine g_iconst C (v := 1) dX1_heirOf_18 (by decide) ?_
  refine g_iload_n C 1 dX1_heirOf_19 rfl rfl ?_
  obtain ⟨x_482303, hx_482303, rx_482303⟩ := ex_shl (x := 1) (y := a0) 6 64 rfl (ra0) (by decide)
  refine g_ishl C (v := x_482303) dX1_heirOf_20 hx_482303 ?_
  refine g_iconst C (v := (-1)) dX1_heirOf_21 (by decide) ?_
  obtain ⟨x_482304, hx_482304, rx_482304⟩ := ex_any (z0 := x_482303 ^^^ (-1))
  refine g_ixor C (v := x_482304) dX1_heirOf_22 hx_482304 ?_
  obtain ⟨x_482305, hx_482305, rx_482305⟩ := ex_andl (x := x_482302) (y := x_482304) (b := 127) (rx_482302)
  refine g_iand C (v := x_482305) dX1_heirOf_23 hx_482305 ?_
  refine g_istore_n C dX1_heirOf_24 rfl (by decide) (lo2 := [(3, .int x_482305), (0, .ref x), (1, .int a0), (2, .int a1)]) rfl ?_
  refine g_aload_n C 1 dX1_heirOf_25 rfl rfl ?_
  refine g_getR C K hLx hkx f_1_52 hb_482293 dX1_heirOf_26 ?_
  obtain ⟨x_482306, hx_482306, rx_482306⟩ := ex_get (I := I) (a := b_482293) (j := 7) (lo := (-2147483648)) (hi := 2147483647) hU.1 hb_482293L (ro_o hb_482293k (by decide)) rfl
  refine g_getI C K hb_482293L hb_482293k f_1_78 (v := x_482306) hx_482306 dX1_heirOf_29 ?_
  refine g_iconst C (v := 2) dX1_heirOf_32 (by decide) ?_
  refine g_icmp_ne C (tgt := 42) dX1_heirOf_33 (by decide) (fun h_482307 => ?_) (fun h_482307 => ?_)
  · skip
    have n_482308 : ¬ x_482306 = 2 := h_482307
    refine g_aload_n C 1 dX1_heirOf_42 rfl rfl ?_
    refine g_getR C K hLx hkx f_1_52 hb_482293 dX1_heirOf_43 ?_
    refine g_getI C K hb_482293L hb_482293k f_1_78 (v := x_482306) hx_482306 dX1_heirOf_46 ?_
    refine g_iconst C (v := 1) dX1_heirOf_49 (by decide) ?_
    refine g_icmp_ne C (tgt := 66) dX1_heirOf_50 (by decide) (fun h_482309 => ?_) (fun h_482309 => ?_)
    · skip
      have n_482310 : ¬ x_482306 = 1 := h_482309
      refine g_iconst C (v := 0) dX1_heirOf_66 (by decide) ?_
      refine g_istore C dX1_heirOf_67 (by decide) (lo2 := [(4, .int 0), (3, .int x_482305), (0, .ref x), (1, .int a0), (2, .int a1)]) rfl ?_
      refine g_aload_n C 2 dX1_heirOf_69 rfl rfl ?_
      refine g_iload_n C 3 dX1_heirOf_70 rfl rfl ?_
      refine g_iload C 0 dX1_heirOf_71 rfl ?_
      refine g_if_eq C (tgt := 81) dX1_heirOf_73 (by decide) (fun h_482311 => ?_) (fun h_482311 => ?_)
      · skip
        refine g_iload_n C 1 dX1_heirOf_81 rfl rfl ?_
        refine g_callVI C K (c_X1_firstBehind W9 hLx hkx a0 x_482305 (ra0) (rx_482305) hU) hLx hkx (by decide) rfl v_1_88 rfl ⟨rfl, rfl⟩ ⟨Nat.le_of_ble_eq_true rfl, Nat.le_of_ble_eq_true rfl⟩ (Nat.le_of_ble_eq_true rfl) ⟨Nat.le_of_ble_eq_true rfl, Nat.le_of_ble_eq_true rfl⟩ dX1_heirOf_82 rfl (st := []) (fun x_482312 I_482313 J_482314 h_482315 => ?_)
        obtain ⟨rfl, rfl, rx_482312⟩ := h_482315
        exact g_zret (ty := .int) (r := x_482312) B K rfl (rfl) ⟨rfl, rfl, rx_482312⟩ dX1_heirOf_85
      · skip
        exact absurd h_482311 (by decide)
    · skip
      have r_482316 := (⟨(eq_rg (h_482309) rc_1).1, (eq_rg (h_482309) rc_1).2⟩ : Rg 1 1 x_482306)
      refine g_iload_n C 0 dX1_heirOf_53 rfl rfl ?_
      refine g_aload_n C 1 dX1_heirOf_54 rfl rfl ?_
      refine g_getR C K hLx hkx f_1_52 hb_482293 dX1_heirOf_55 ?_
      refine g_iload_n C 2 dX1_heirOf_58 rfl rfl ?_
      refine g_callVI C K (c_X8_childrenOf W9 hb_482293L hb_482293k a0 (ra0) hU) hb_482293L hb_482293k (by decide) rfl v_1_85 rfl ⟨rfl, rfl⟩ ⟨Nat.le_of_ble_eq_true rfl, Nat.le_of_ble_eq_true rfl⟩ (Nat.le_of_ble_eq_true rfl) ⟨Nat.le_of_ble_eq_true rfl, Nat.le_of_ble_eq_true rfl⟩ dX1_heirOf_59 rfl (st := [.int x_482305]) (fun x_482317 I_482318 J_482319 h_482320 => ?_)
      obtain ⟨rfl, rfl, rx_482317⟩ := h_482320
      obtain ⟨x_482321, hx_482321, rx_482321⟩ := ex_andl (x := x_482305) (y := x_482317) (b := 127) (rx_482305)
      refine g_iand C (v := x_482321) dX1_heirOf_62 hx_482321 ?_
      refine g_goto C (tgt := 67) dX1_heirOf_63 (by decide) ?_
      refine g_istore C dX1_heirOf_67 (by decide) (lo2 := [(4, .int x_482321), (3, .int x_482305), (0, .ref x), (1, .int a0), (2, .int a1)]) rfl ?_
      refine g_aload_n C 2 dX1_heirOf_69 rfl rfl ?_
      refine g_iload_n C 3 dX1_heirOf_70 rfl rfl ?_
      refine g_iload C 0 dX1_heirOf_71 rfl ?_
      refine g_if_eq C (tgt := 81) dX1_heirOf_73 (by decide) (fun h_482322 => ?_) (fun h_482322 => ?_)
      · skip
        have r_482323 := (⟨(rx_482321).1, (eq_rg (h_482322) rc_0).2⟩ : Rg 0 0 x_482321)
        refine g_iload_n C 1 dX1_heirOf_81 rfl rfl ?_
        refine g_callVI C K (c_X1_firstBehind W9 hLx hkx a0 x_482305 (ra0) (rx_482305) hU) hLx hkx (by decide) rfl v_1_88 rfl ⟨rfl, rfl⟩ ⟨Nat.le_of_ble_eq_true rfl, Nat.le_of_ble_eq_true rfl⟩ (Nat.le_of_ble_eq_true rfl) ⟨Nat.le_of_ble_eq_true rfl, Nat.le_of_ble_eq_true rfl⟩ dX1_heirOf_82 rfl (st := []) (fun x_482324 I_482325 J_482326 h_482327 => ?_)
        obtain ⟨rfl, rfl, rx_482324⟩ := h_482327
        exact g_zret (ty := .int) (r := x_482324) B K rfl (rfl) ⟨rfl, rfl, rx_482324⟩ dX1_heirOf_85
      · skip
        have n_482328 : ¬ x_482321 = 0 := h_482322
        have r_482329 := ne_lo (lo := 1) n_482328 rx_482321 rc_0 rfl (by decide)
        refine g_iload C 0 dX1_heirOf_76 rfl ?_
        refine g_goto C (tgt := 82) dX1_heirOf_78 (by decide) ?_
        refine g_callVI C K (c_X1_firstBehind W9 hLx hkx a0 x_482321 (ra0) (rg_w r_482329 (by decide) (by decide)) hU) hLx hkx (by decide) rfl v_1_88 rfl ⟨rfl, rfl⟩ ⟨Nat.le_of_ble_eq_true rfl, Nat.le_of_ble_eq_true rfl⟩ (Nat.le_of_ble_eq_true rfl) ⟨Nat.le_of_ble_eq_true rfl, Nat.le_of_ble_eq_true rfl⟩ dX1_heirOf_82 rfl (st := []) (fun x_482330 I_482331 J_482332 h_482333 => ?_)
        obtain ⟨rfl, rfl, rx_482330⟩ := h_482333
        exact g_zret (ty := .int) (r := x_482330) B K rfl (rfl) ⟨rfl, rfl, rx_482330⟩ dX1_heirOf_85
  · skip
    have r_482334 := (⟨(eq_rg (h_482307) rc_2).1, (eq_rg (h_482307) rc_2).2⟩ : Rg 2 2 x_482306)
    refine g_aload_n C 1 dX1_heirOf_36 rfl rfl ?_
    refine g_iload_n C 0 dX1_heirOf_37 rfl rfl ?_
    refine g_callVI C K (c_X1_leastFed W9 hLx hkx x_482305 (rx_482305) hU) hLx hkx (by decide) rfl v_1_81 rfl ⟨rfl, rfl⟩ ⟨Nat.le_of_ble_eq_true rfl, Nat.le_of_ble_eq_true rfl⟩ (Nat.le_of_ble_eq_true rfl) ⟨Nat.le_of_ble_eq_true rfl, Nat.le_of_ble_eq_true rfl⟩ dX1_heirOf_38 rfl (st := []) (fun x_482335 I_482336 J_482337 h_482338 => ?_)
    obtain ⟨rfl, rfl, rx_482335⟩ := h_482338
    exact g_zret (ty := .int) (r := x_482335) B K rfl (rfl) ⟨rfl, rfl, rx_482335⟩ dX1_heirOf_41
set_option maxRecDepth 100000 in
set_option maxHeartbeats 8000000 in
theorem c_X1_passOn {l : Launch} {D : va_G} {cy : Nat → ClassId} {L : List Nat} {κ ln : Nat → Nat} {R : Nat → Nat → Option Nat} {I : Nat → Nat → Int32} {J : Nat → Nat → Int64} {ow : Nat → Nat × Nat} (W9 : ∀ a ∈ L, Shp L κ ln R ow a) {x : Nat} (hLx : x ∈ L) (hkx : κ x = 1) (a0 : Int32) (ra0 : Rg 0 6 a0) (hU : Iv L κ R ow I) : CtV l yX1_passOn cX1_passOn 7 none { frames := 2, cells := 0, slots := 0, locals := 60 } D cy L κ ln R I J [.ref x, .int a0] (fun I2 J2 => Iv L κ R ow I2 ∧ Fq L κ ow [110, 112, 16100, 16200, 16300] I I2 ∧ Fq L κ ow [] J J2) := by
  refine CtV.of (by decide +kernel) (Nat.le_of_ble_eq_true rfl) ?_
  intro p e s m below meth c B K
  have C := B.1
  have hF : Fq L κ ow [110, 112, 16100, 16200, 16300] I I := fq_rf
  have hG : Fq L κ ow [] J J := fq_rf
  obtain ⟨b_482712, hb_482712, hb_482712L, hb_482712k⟩ := shp_o (W9 x hLx) hkx 0 8 rfl (by decide)
  obtain ⟨b_482713, hb_482713, hb_482713L, hb_482713k, hb_482713n, hb_482713o⟩ := shp_a (W9 x hLx) hkx 1 14 6 rfl (by decide)
  refine g_lo (is := [0, 1]) (lo2 := [(0, .ref x), (1, .int a0)]) rfl ?_
  have l_21 : ∀ (n_21 : Nat) (I_482714 : Nat → Nat → Int32) (J_482715 : Nat → Nat → Int64) (hU_482716 : Iv L κ R ow I_482714) (hF_482717 : Fq L κ ow [110, 112, 16100, 16200, 16300] I I_482714) (hG_482718 : Fq L κ ow [] J J_482715) (v_482719 : Int32) (rv_482719 : Rg 0 6 v_482719) (v_482720 : Int32) (rv_482720 : Rg (-1) 6 v_482720) (v_482721 : Int32) (v_482722 : Int32) (rv_482722 : Rg 0 6 v_482722) (v_482723 : Int32) (v_482724 : Int32) (q_482725 : I_482714 x 8 = v_482723) (q_482726 : I_482714 b_482712 8 = v_482724) (hm_482727 : 6 < (v_482722 : Int32).toInt + (n_21 : Int)), WG p l e { frames := 2, cells := 0, slots := 0, locals := 60 } s m ([.ref x, .int a0] : List Value).toArray below meth c 7 0 0 (MQ below (Qv_ D cy L κ ln R (fun I2 J2 => Iv L κ R ow I2 ∧ Fq L κ ow [110, 112, 16100, 16200, 16300] I I2 ∧ Fq L κ ow [] J J2)) ([.ref x, .int a0] : List Value).toArray s 0 0 (Al_ L)) D cy (Al_ L) s.heap L κ ln R I_482714 J_482715 21 [(0, .ref x), (1, .int v_482719), (2, .int v_482720), (3, .int v_482721), (4, .int v_482722)] [] := by
    intro n_21
    induction n_21 with
    | zero =>
      intro I_482714 J_482715 hU_482716 hF_482717 hG_482718 v_482719 rv_482719 v_482720 rv_482720 v_482721 v_482722 rv_482722 v_482723 v_482724 q_482725 q_482726 hm_482727
      exact ms_0 rv_482722 hm_482727
    | succ n_21 ih_21 =>
      intro I_482714 J_482715 hU_482716 hF_482717 hG_482718 v_482719 rv_482719 v_482720 rv_482720 v_482721 v_482722 rv_482722 v_482723 v_482724 q_482725 q_482726 hm_482727
      have j_111 : ∀ (I_482728 : Nat → Nat → Int32) (J_482729 : Nat → Nat → Int64) (hU_482730 : Iv L κ R ow I_482728) (hF_482731 : Fq L κ ow [110, 112, 16100, 16200, 16300] I I_482728) (hG_482732 : Fq L κ ow [] J J_482729) (v_482733 : Int32) (rv_482733 : Rg 0 6 v_482733) (v_482734 : Int32) (rv_482734 : Rg (-1) 6 v_482734) (v_482735 : Int32) (v_482736 : Int32) (rv_482736 : Rg 0 5 v_482736) (v_482737 : Int32) (v_482738 : Int32) (v_482739 : Int32) (v_482740 : Int32) (v_482741 : Int32) (rv_482741 : Rg 1 6 v_482741) (v_482742 : Int32) (q_482743 : I_482728 x 8 = v_482739) (q_482744 : I_482728 x 10 = v_482740) (q_482745 : I_482728 b_482712 6 = v_482741) (q_482746 : I_482728 b_482712 8 = v_482742) (hm_482747 : 6 < (v_482736 : Int32).toInt + ((n_21 + 1 : Nat) : Int)), WG p l e { frames := 2, cells := 0, slots := 0, locals := 60 } s m ([.ref x, .int a0] : List Value).toArray below meth c 7 0 0 (MQ below (Qv_ D cy L κ ln R (fun I2 J2 => Iv L κ R ow I2 ∧ Fq L κ ow [110, 112, 16100, 16200, 16300] I I2 ∧ Fq L κ ow [] J J2)) ([.ref x, .int a0] : List Value).toArray s 0 0 (Al_ L)) D cy (Al_ L) s.heap L κ ln R I_482728 J_482729 111 [(0, .ref x), (1, .int v_482733), (2, .int v_482734), (3, .int v_482735), (4, .int v_482736), (5, .int v_482737), (6, .int v_482738)] [] := by
        intro I_482728 J_482729 hU_482730 hF_482731 hG_482732 v_482733 rv_482733 v_482734 rv_482734 v_482735 v_482736 rv_482736 v_482737 v_482738 v_482739 v_482740 v_482741 rv_482741 v_482742 q_482743 q_482744 q_482745 q_482746 hm_482747
        obtain ⟨x_482748, hx_482748, rx_482748, tx_482748⟩ := ex_add (y := 1) 1 6 rv_482736 rc_1 (by decide) (by decide) (by decide) (by decide)
        refine g_iinc C dX1_passOn_111 (k := 4) (v := x_482748) rfl hx_482748 (by decide) (lo2 := [(4, .int x_482748), (0, .ref x), (1, .int v_482733), (2, .int v_482734), (3, .int v_482735), (5, .int v_482737), (6, .int v_482738)]) rfl ?_
        refine g_goto C (tgt := 21) dX1_passOn_114 (by decide) ?_
        refine g_lo (is := [1, 2, 3, 4, 0]) (lo2 := [(0, .ref x), (1, .int v_482733), (2, .int v_482734), (3, .int v_482735), (4, .int x_482748)]) rfl ?_
        exact ih_21 I_482728 J_482729 hU_482730 hF_482731 hG_482732 v_482733 (rv_482733) v_482734 (rv_482734) v_482735 x_482748 (rg_w rx_482748 (by decide) (by decide)) v_482739 v_482742 q_482743 q_482746 (ms_1 hm_482747 (ti_k tx_482748 rc_1) (by decide))
      refine g_iload C 4 dX1_passOn_21 rfl ?_
      refine g_aload_n C 0 dX1_passOn_23 rfl rfl ?_
      refine g_getR C K hLx hkx f_1_52 hb_482712 dX1_passOn_24 ?_
      obtain ⟨x_482749, hx_482749, rx_482749⟩ := ex_get (I := I_482714) (a := b_482712) (j := 6) (lo := 0) (hi := 6) hU_482716.1 hb_482712L (ro_o hb_482712k (by decide)) rfl
      refine g_getI C K hb_482712L hb_482712k f_1_97 (v := x_482749) hx_482749 dX1_passOn_27 ?_
      refine g_icmp_ge C (tgt := 117) dX1_passOn_30 (by decide) (fun h_482750 => ?_) (fun h_482750 => ?_)
      · skip
        refine g_aload_n C 0 dX1_passOn_117 rfl rfl ?_
        refine g_dup C dX1_passOn_118 rfl ?_
        obtain ⟨x_482751, hx_482751, rx_482751⟩ := ex_get (I := I_482714) (a := x) (j := 12) (lo := (-2147483648)) (hi := 2147483647) hU_482716.1 hLx (ro_o hkx (by decide)) rfl
        refine g_getI C K hLx hkx f_1_46 (v := x_482751) hx_482751 dX1_passOn_119 ?_
        refine g_iconst C (v := 1) dX1_passOn_122 (by decide) ?_
        obtain ⟨x_482752, hx_482752, rx_482752⟩ := ex_any (z0 := x_482751 + 1)
        refine g_iadd C (v := x_482752) dX1_passOn_123 hx_482752 ?_
        refine h_putI C K hLx hkx f_1_46 p_1_12 dX1_passOn_124 (fun I_482753 hI_482753 => ?_)
        have hU_482754 := iv_put W9 hU_482716 hI_482753 (ro_o hkx (by decide)) (lo := (-2147483648)) (hi := 2147483647) (rfl) (rx_482752) rfl
        have hF_482755 := fq_puto hF_482717 hI_482753 hkx (by decide) (by decide)
        exact g_vret B K rfl ⟨hU_482754, hF_482755, hG_482718⟩ dX1_passOn_127
      · skip
        have r_482756 := lt_l (hi := 5) (nle h_482750) rv_482722 rx_482749 (by decide)
        have r_482757 := lt_r (lo := 1) (nle h_482750) rv_482722 rx_482749 (by decide)
        refine g_aload_n C 0 dX1_passOn_33 rfl rfl ?_
        refine g_iload_n C 1 dX1_passOn_34 rfl rfl ?_
        refine g_iload C 4 dX1_passOn_35 rfl ?_
        refine g_callVI C K (c_X1_onPlate W9 hLx hkx v_482719 v_482722 (rv_482719) (r_482756) hU_482716) hLx hkx (by decide) rfl v_1_71 rfl ⟨rfl, rfl⟩ ⟨Nat.le_of_ble_eq_true rfl, Nat.le_of_ble_eq_true rfl⟩ (Nat.le_of_ble_eq_true rfl) ⟨Nat.le_of_ble_eq_true rfl, Nat.le_of_ble_eq_true rfl⟩ dX1_passOn_37 rfl (st := []) (fun x_482758 I_482759 J_482760 h_482761 => ?_)
        obtain ⟨rfl, rfl, rx_482758⟩ := h_482761
        refine g_istore C dX1_passOn_40 (by decide) (lo2 := [(5, .int x_482758), (0, .ref x), (1, .int v_482719), (2, .int v_482720), (3, .int v_482721), (4, .int v_482722)]) rfl ?_
        refine g_iload C 0 dX1_passOn_42 rfl ?_
        refine g_iload_n C 4 dX1_passOn_44 rfl rfl ?_
        obtain ⟨x_482762, hx_482762, rx_482762⟩ := ex_min (-2147483648) 2147483647 rx_482758 (rg_all v_482721) (by decide) (by decide) (by decide)
        refine g_mmin C (v := x_482762) mw_1_100 w_min (Nat.le_of_ble_eq_true rfl) (Nat.le_of_ble_eq_true rfl) ⟨Nat.le_of_ble_eq_true rfl, Nat.le_of_ble_eq_true rfl⟩ (hx_482762) dX1_passOn_45 ?_
        refine g_istore C dX1_passOn_48 (by decide) (lo2 := [(6, .int x_482762), (5, .int x_482758), (0, .ref x), (1, .int v_482719), (2, .int v_482720), (3, .int v_482721), (4, .int v_482722)]) rfl ?_
        refine g_iload_n C 5 dX1_passOn_50 rfl rfl ?_
        refine g_iload C 0 dX1_passOn_51 rfl ?_
        obtain ⟨x_482763, hx_482763, rx_482763⟩ := ex_any (z0 := v_482721 - x_482762)
        refine g_isub C (v := x_482763) dX1_passOn_53 hx_482763 ?_
        refine g_istore_n C dX1_passOn_54 rfl (by decide) (lo2 := [(3, .int x_482763), (6, .int x_482762), (5, .int x_482758), (0, .ref x), (1, .int v_482719), (2, .int v_482720), (4, .int v_482722)]) rfl ?_
        refine g_aload_n C 3 dX1_passOn_55 rfl rfl ?_
        refine g_dup C dX1_passOn_56 rfl ?_
        obtain ⟨x_482764, hx_482764, rx_482764⟩ := ex_get (I := I_482714) (a := x) (j := 10) (lo := (-2147483648)) (hi := 2147483647) hU_482716.1 hLx (ro_o hkx (by decide)) rfl
        refine g_getI C K hLx hkx f_1_40 (v := x_482764) hx_482764 dX1_passOn_57 ?_
        refine g_iload C 1 dX1_passOn_60 rfl ?_
        obtain ⟨x_482765, hx_482765, rx_482765⟩ := ex_any (z0 := x_482764 + x_482762)
        refine g_iadd C (v := x_482765) dX1_passOn_62 hx_482765 ?_
        refine h_putI C K hLx hkx f_1_40 p_1_10 dX1_passOn_63 (fun I_482766 hI_482766 => ?_)
        have hU_482767 := iv_put W9 hU_482716 hI_482766 (ro_o hkx (by decide)) (lo := (-2147483648)) (hi := 2147483647) (rfl) (rx_482765) rfl
        have hF_482768 := fq_puto hF_482717 hI_482766 hkx (by decide) (by decide)
        refine g_aload_n C 3 dX1_passOn_66 rfl rfl ?_
        refine g_iload_n C 4 dX1_passOn_67 rfl rfl ?_
        refine g_iload C 6 dX1_passOn_68 rfl ?_
        refine g_iload C 2 dX1_passOn_70 rfl ?_
        obtain ⟨x_482769, hx_482769, rx_482769⟩ := ex_any (z0 := -x_482758)
        refine g_ineg C (v := x_482769) dX1_passOn_72 hx_482769 ?_
        refine g_callVV C K (c_X1_addToPlate W9 hLx hkx v_482719 v_482722 x_482769 (rv_482719) (r_482756) hU_482767) hLx hkx (by decide) rfl v_1_105 rfl ⟨rfl, rfl⟩ ⟨Nat.le_of_ble_eq_true rfl, Nat.le_of_ble_eq_true rfl⟩ (Nat.le_of_ble_eq_true rfl) ⟨Nat.le_of_ble_eq_true rfl, Nat.le_of_ble_eq_true rfl⟩ dX1_passOn_73 rfl (st := []) (fun I_482771 J_482772 h_482773 => ?_)
        obtain ⟨hUI_482771, hFI_482771, hGJ_482772⟩ := h_482773
        have hF_482774 := fq_tr hF_482768 hFI_482771 (by decide)
        have hG_482775 := fq_tr hG_482718 hGJ_482772 (by decide)
        refine g_iload_n C 5 dX1_passOn_76 rfl rfl ?_
        refine g_iconst C (v := (-1)) dX1_passOn_77 (by decide) ?_
        refine g_icmp_ne C (tgt := 99) dX1_passOn_78 (by decide) (fun h_482776 => ?_) (fun h_482776 => ?_)
        · skip
          have n_482777 : ¬ v_482720 = (-1) := h_482776
          have r_482778 := ne_lo (lo := 0) n_482777 rv_482720 rc_m1 rfl (by decide)
          refine g_aload_n C 3 dX1_passOn_99 rfl rfl ?_
          refine g_iload_n C 5 dX1_passOn_100 rfl rfl ?_
          refine g_iload C 6 dX1_passOn_101 rfl ?_
          refine g_iload C 2 dX1_passOn_103 rfl ?_
          refine g_iload C 1 dX1_passOn_105 rfl ?_
          obtain ⟨x_482779, hx_482779, rx_482779⟩ := ex_any (z0 := x_482758 - x_482762)
          refine g_isub C (v := x_482779) dX1_passOn_107 hx_482779 ?_
          refine g_callVV C K (c_X1_addToPlate W9 hLx hkx v_482720 v_482722 x_482779 (r_482778) (r_482756) hUI_482771) hLx hkx (by decide) rfl v_1_105 rfl ⟨rfl, rfl⟩ ⟨Nat.le_of_ble_eq_true rfl, Nat.le_of_ble_eq_true rfl⟩ (Nat.le_of_ble_eq_true rfl) ⟨Nat.le_of_ble_eq_true rfl, Nat.le_of_ble_eq_true rfl⟩ dX1_passOn_108 rfl (st := []) (fun I_482781 J_482782 h_482783 => ?_)
          obtain ⟨hUI_482781, hFI_482781, hGJ_482782⟩ := h_482783
          have hF_482784 := fq_tr hF_482774 hFI_482781 (by decide)
          have hG_482785 := fq_tr hG_482775 hGJ_482782 (by decide)
          refine g_lo (is := [3, 4, 5, 0, 6, 2, 1]) (lo2 := [(0, .ref x), (1, .int v_482719), (2, .int v_482720), (3, .int x_482763), (4, .int v_482722), (5, .int x_482758), (6, .int x_482762)]) rfl ?_
          exact j_111 I_482781 J_482782 hUI_482781 hF_482784 hG_482785 v_482719 (rv_482719) v_482720 (rg_w r_482778 (by decide) (by decide)) x_482763 v_482722 (r_482756) x_482758 x_482762 v_482723 x_482765 x_482749 (r_482757) v_482724 (fq_at hFI_482781 hLx hkx (by decide) (by decide) (fq_at hFI_482771 hLx hkx (by decide) (by decide) (kp_j hI_482766 (by decide) q_482725))) (fq_at hFI_482781 hLx hkx (by decide) (by decide) (fq_at hFI_482771 hLx hkx (by decide) (by decide) (kp_s hI_482766))) (fq_at hFI_482781 hb_482712L hb_482712k (by decide) (by decide) (fq_at hFI_482771 hb_482712L hb_482712k (by decide) (by decide) (kp_k (κ := κ) hI_482766 (by rw [hb_482712k, hkx]; decide) hx_482749))) (fq_at hFI_482781 hb_482712L hb_482712k (by decide) (by decide) (fq_at hFI_482771 hb_482712L hb_482712k (by decide) (by decide) (kp_k (κ := κ) hI_482766 (by rw [hb_482712k, hkx]; decide) q_482726))) hm_482727
        · skip
          have r_482786 := (⟨(rv_482720).1, (eq_rg (h_482776) rc_m1).2⟩ : Rg (-1) (-1) v_482720)
          refine g_aload_n C 3 dX1_passOn_81 rfl rfl ?_
          refine g_getR C K hLx hkx f_1_9 hb_482713 dX1_passOn_82 ?_
          refine g_iload C 6 dX1_passOn_85 rfl ?_
          refine g_dup2 C dX1_passOn_87 rfl rfl ?_
          obtain ⟨x_482787, hx_482787, rx_482787⟩ := ex_get (I := I_482771) (a := b_482713) (j := v_482722.toNatClampNeg) (lo := (-2147483648)) (hi := 2147483647) hUI_482771.1 hb_482713L (ro_a hb_482713k (by decide) hb_482713o hkx rfl) (rfl)
          refine h_iald C K hb_482713L hb_482713k (v := x_482787) (v_482722.toNatClampNeg) (rfl) (ix_0 r_482756 (by decide)) (ix_lt r_482756 (by decide) hb_482713n (by decide)) hx_482787 dX1_passOn_88 ?_
          refine g_iload C 2 dX1_passOn_89 rfl ?_
          refine g_iload C 1 dX1_passOn_91 rfl ?_
          obtain ⟨x_482788, hx_482788, rx_482788⟩ := ex_any (z0 := x_482758 - x_482762)
          refine g_isub C (v := x_482788) dX1_passOn_93 hx_482788 ?_
          obtain ⟨x_482789, hx_482789, rx_482789⟩ := ex_any (z0 := x_482787 + x_482788)
          refine g_iadd C (v := x_482789) dX1_passOn_94 hx_482789 ?_
          refine h_iast C K hb_482713L hb_482713k (v_482722.toNatClampNeg) (rfl) (ix_0 r_482756 (by decide)) (ix_lt r_482756 (by decide) hb_482713n (by decide)) dX1_passOn_95 (fun I_482790 hI_482790 => ?_)
          have hU_482791 := iv_put W9 hUI_482771 hI_482790 (ro_a hb_482713k (by decide) hb_482713o hkx rfl) (lo := (-2147483648)) (hi := 2147483647) (rfl) (rx_482789) rfl
          have hF_482792 := fq_puta hF_482774 hI_482790 (ro_a hb_482713k (by decide) hb_482713o hkx rfl) (by decide) (by decide)
          refine g_goto C (tgt := 111) dX1_passOn_96 (by decide) ?_
          have q_482793 := (kp_k (κ := κ) hI_482790 (by rw [hb_482712k, hb_482713k]; decide) (fq_at hFI_482771 hb_482712L hb_482712k (by decide) (by decide) (kp_k (κ := κ) hI_482766 (by rw [hb_482712k, hkx]; decide) hx_482749)))
          refine g_lo (is := [3, 4, 5, 0, 6, 2, 1]) (lo2 := [(0, .ref x), (1, .int v_482719), (2, .int v_482720), (3, .int x_482763), (4, .int v_482722), (5, .int x_482758), (6, .int x_482762)]) rfl ?_
          exact j_111 I_482790 J_482772 hU_482791 hF_482792 hG_482775 v_482719 (rv_482719) v_482720 (rg_w r_482786 (by decide) (by decide)) x_482763 v_482722 (r_482756) x_482758 x_482762 v_482723 x_482765 x_482749 (r_482757) v_482724 (kp_k (κ := κ) hI_482790 (by rw [hkx, hb_482713k]; decide) (fq_at hFI_482771 hLx hkx (by decide) (by decide) (kp_j hI_482766 (by decide) q_482725))) (kp_k (κ := κ) hI_482790 (by rw [hkx, hb_482713k]; decide) (fq_at hFI_482771 hLx hkx (by decide) (by decide) (kp_s hI_482766))) q_482793 (kp_k (κ := κ) hI_482790 (by rw [hb_482712k, hb_482713k]; decide) (fq_at hFI_482771 hb_482712L hb_482712k (by decide) (by decide) (kp_k (κ := κ) hI_482766 (by rw [hb_482712k, hkx]; decide) q_482726))) hm_482727
  refine g_aload_n C 0 dX1_passOn_0 rfl rfl ?_
  refine g_iload_n C 1 dX1_passOn_1 rfl rfl ?_
  refine g_aload_n C 0 dX1_passOn_2 rfl rfl ?_
  obtain ⟨x_482794, hx_482794, rx_482794⟩ := ex_get (I := I) (a := x) (j := 8) (lo := (-2147483648)) (hi := 2147483647) hU.1 hLx (ro_o hkx (by decide)) rfl
  refine g_getI C K hLx hkx f_1_34 (v := x_482794) hx_482794 dX1_passOn_3 ?_
  refine g_callVI C K (c_X1_heirOf W9 hLx hkx a0 x_482794 (ra0) hU) hLx hkx (by decide) rfl v_1_91 rfl ⟨rfl, rfl⟩ ⟨Nat.le_of_ble_eq_true rfl, Nat.le_of_ble_eq_true rfl⟩ (Nat.le_of_ble_eq_true rfl) ⟨Nat.le_of_ble_eq_true rfl, Nat.le_of_ble_eq_true rfl⟩ dX1_passOn_6 rfl (st := []) (fun x_482795 I_482796 J_482797 h_482798 => ?_)
  obtain ⟨rfl, rfl, rx_482795⟩ := h_482798
  refine g_istore_n C dX1_passOn_9 rfl (by decide) (lo2 := [(2, .int x_482795), (0, .ref x), (1, .int a0)]) rfl ?_
  refine g_aload_n C 1 dX1_passOn_10 rfl rfl ?_
  refine g_getR C K hLx hkx f_1_52 hb_482712 dX1_passOn_11 ?_
  obtain ⟨x_482799, hx_482799, rx_482799⟩ := ex_get (I := I) (a := b_482712) (j := 8) (lo := (-2147483648)) (hi := 2147483647) hU.1 hb_482712L (ro_o hb_482712k (by decide)) rfl
  refine g_getI C K hb_482712L hb_482712k f_1_94 (v := x_482799) hx_482799 dX1_passOn_14 ?_
  refine g_istore_n C dX1_passOn_17 rfl (by decide) (lo2 := [(3, .int x_482799), (2, .int x_482795), (0, .ref x), (1, .int a0)]) rfl ?_
  refine g_iconst C (v := 0) dX1_passOn_18 (by decide) ?_
  refine g_istore C dX1_passOn_19 (by decide) (lo2 := [(4, .int 0), (3, .int x_482799), (2, .int x_482795), (0, .ref x), (1, .int a0)]) rfl ?_
  refine g_lo (is := [3, 4, 2, 1, 0]) (lo2 := [(0, .ref x), (1, .int a0), (2, .int x_482795), (3, .int x_482799), (4, .int 0)]) rfl ?_
  exact l_21 7 I J hU hF hG a0 (ra0) x_482795 (rx_482795) x_482799 0 (rg_w rc_0 (by decide) (by decide)) x_482794 x_482799 hx_482794 hx_482799 (ms_s (a := 0) (b := 6) (N := 7) (rg_w rc_0 (by decide) (by decide)) (by decide))
set_option maxRecDepth 100000 in
set_option maxHeartbeats 8000000 in
theorem c_X1_tryToRise {l : Launch} {D : va_G} {cy : Nat → ClassId} {L : List Nat} {κ ln : Nat → Nat} {R : Nat → Nat → Option Nat} {I : Nat → Nat → Int32} {J : Nat → Nat → Int64} {ow : Nat → Nat × Nat} (W9 : ∀ a ∈ L, Shp L κ ln R ow a) {x : Nat} (hLx : x ∈ L) (hkx : κ x = 1) (a0 : Int32) (ra0 : Rg 0 6 a0) (hU : Iv L κ R ow I) : CtI l yX1_tryToRise cX1_tryToRise 2 (some .int) { frames := 3, cells := 0, slots := 0, locals := 86 } D cy L κ ln R I J [.ref x, .int a0] (fun r I2 J2 => Iv L κ R ow I2 ∧ Fq L κ ow [110, 112, 16100, 16200, 16300] I I2 ∧ Fq L κ ow [] J J2 ∧ Rg 0 2 r) := by
  refine CtI.of (by decide +kernel) (Nat.le_of_ble_eq_true rfl) ?_
  intro p e s m below meth c B K
  have C := B.1
  have hF : Fq L κ ow [110, 112, 16100, 16200, 16300] I I := fq_rf
  have hG : Fq L κ ow [] J J := fq_rf
  obtain ⟨b_482838, hb_482838, hb_482838L, hb_482838k, hb_482838n, hb_482838o⟩ := shp_a (W9 x hLx) hkx 3 14 7 rfl (by decide)
  refine g_lo (is := [0, 1]) (lo2 := [(0, .ref x), (1, .int a0)]) rfl ?_
  refine g_aload_n C 0 dX1_tryToRise_0 rfl rfl ?_
  refine g_iload_n C 1 dX1_tryToRise_1 rfl rfl ?_
  refine g_callVI C K (c_X1_lives W9 hLx hkx a0 (ra0) hU) hLx hkx (by decide) rfl v_1_115 rfl ⟨rfl, rfl⟩ ⟨Nat.le_of_ble_eq_true rfl, Nat.le_of_ble_eq_true rfl⟩ (Nat.le_of_ble_eq_true rfl) ⟨Nat.le_of_ble_eq_true rfl, Nat.le_of_ble_eq_true rfl⟩ dX1_tryToRise_2 rfl (st := []) (fun x_482839 I_482840 J_482841 h_482842 => ?_)
  obtain ⟨rfl, rfl, rx_482839⟩ := h_482842
  refine g_if_ne C (tgt := 10) dX1_tryToRise_5 (by decide) (fun h_482843 => ?_) (fun h_482843 => ?_)
  · skip
    have n_482844 : ¬ x_482839 = 0 := h_482843
    have r_482845 := ne_lo (lo := 1) n_482844 rx_482839 rc_0 rfl (by decide)
    refine g_aload_n C 0 dX1_tryToRise_10 rfl rfl ?_
    refine g_getR C K hLx hkx f_1_18 hb_482838 dX1_tryToRise_11 ?_
    refine g_iload_n C 1 dX1_tryToRise_14 rfl rfl ?_
    obtain ⟨x_482846, hx_482846, rx_482846⟩ := ex_get (I := I) (a := b_482838) (j := a0.toNatClampNeg) (lo := (-2147483648)) (hi := 2147483647) hU.1 hb_482838L (ro_a hb_482838k (by decide) hb_482838o hkx rfl) (rfl)
    refine h_iald C K hb_482838L hb_482838k (v := x_482846) (a0.toNatClampNeg) (rfl) (ix_0 ra0 (by decide)) (ix_lt ra0 (by decide) hb_482838n (by decide)) hx_482846 dX1_tryToRise_15 ?_
    refine g_if_ne C (tgt := 21) dX1_tryToRise_16 (by decide) (fun h_482847 => ?_) (fun h_482847 => ?_)
    · skip
      have n_482848 : ¬ x_482846 = 0 := h_482847
      refine g_aload_n C 0 dX1_tryToRise_21 rfl rfl ?_
      refine g_iload_n C 1 dX1_tryToRise_22 rfl rfl ?_
      refine g_callVV C K (c_X1_passOn W9 hLx hkx a0 (ra0) hU) hLx hkx (by decide) rfl v_1_119 rfl ⟨rfl, rfl⟩ ⟨Nat.le_of_ble_eq_true rfl, Nat.le_of_ble_eq_true rfl⟩ (Nat.le_of_ble_eq_true rfl) ⟨Nat.le_of_ble_eq_true rfl, Nat.le_of_ble_eq_true rfl⟩ dX1_tryToRise_23 rfl (st := []) (fun I_482850 J_482851 h_482852 => ?_)
      obtain ⟨hUI_482850, hFI_482850, hGJ_482851⟩ := h_482852
      have hF_482853 := fq_tr hF hFI_482850 (by decide)
      have hG_482854 := fq_tr hG hGJ_482851 (by decide)
      refine g_iconst C (v := 0) dX1_tryToRise_26 (by decide) ?_
      exact g_zret (ty := .int) (r := 0) B K rfl (rfl) ⟨hUI_482850, hF_482853, hG_482854, rg_w rc_0 (by decide) (by decide)⟩ dX1_tryToRise_27
    · skip
      have r_482855 := (⟨(eq_rg (h_482847) rc_0).1, (eq_rg (h_482847) rc_0).2⟩ : Rg 0 0 x_482846)
      refine g_iconst C (v := 2) dX1_tryToRise_19 (by decide) ?_
      exact g_zret (ty := .int) (r := 2) B K rfl (rfl) ⟨hU, hF, hG, rg_w rc_2 (by decide) (by decide)⟩ dX1_tryToRise_20
  · skip
    have r_482856 := (⟨(rx_482839).1, (eq_rg (h_482843) rc_0).2⟩ : Rg 0 0 x_482839)
    refine g_iconst C (v := 1) dX1_tryToRise_8 (by decide) ?_
    exact g_zret (ty := .int) (r := 1) B K rfl (rfl) ⟨hU, hF, hG, rg_w rc_1 (by decide) (by decide)⟩ dX1_tryToRise_9
set_option maxRecDepth 100000 in
set_option maxHeartbeats 8000000 in
theorem c_X11_rise {l : Launch} {D : va_G} {cy : Nat → ClassId} {L : List Nat} {κ ln : Nat → Nat} {R : Nat → Nat → Option Nat} {I : Nat → Nat → Int32} {J : Nat → Nat → Int64} {ow : Nat → Nat × Nat} (W9 : ∀ a ∈ L, Shp L κ ln R ow a) {x : Nat} (hLx : x ∈ L) (hkx : κ x = 11) (a0 : Int32) (hU : Iv L κ R ow I) : CtI l yX11_rise cX11_rise 2 (some .int) { frames := 4, cells := 0, slots := 0, locals := 107 } D cy L κ ln R I J [.ref x, .int a0] (fun r I2 J2 => Iv L κ R ow I2 ∧ Fq L κ ow [107, 108, 109, 110, 111, 112, 501, 502, 16100, 16200, 16300, 16400, 16500, 16600] I I2 ∧ Fq L κ ow [] J J2 ∧ Rg (-1) 3 r) := by
  refine CtI.of (by decide +kernel) (Nat.le_of_ble_eq_true rfl) ?_
  intro p e s m below meth c B K
  have C := B.1
  have hF : Fq L κ ow [107, 108, 109, 110, 111, 112, 501, 502, 16100, 16200, 16300, 16400, 16500, 16600] I I := fq_rf
  have hG : Fq L κ ow [] J J := fq_rf
  obtain ⟨b_482917, hb_482917, hb_482917L, hb_482917k⟩ := shp_o (W9 x hLx) hkx 4 5 rfl (by decide)
  obtain ⟨b_482918, hb_482918, hb_482918L, hb_482918k⟩ := shp_o (W9 x hLx) hkx 1 8 rfl (by decide)
  obtain ⟨b_482919, hb_482919, hb_482919L, hb_482919k⟩ := shp_o (W9 x hLx) hkx 2 1 rfl (by decide)
  refine g_lo (is := [0, 1]) (lo2 := [(0, .ref x), (1, .int a0)]) rfl ?_
  refine g_aload_n C 0 dX11_rise_0 rfl rfl ?_
  refine g_getR C K hLx hkx f_11_19 hb_482918 dX11_rise_1 ?_
  refine g_iload_n C 1 dX11_rise_4 rfl rfl ?_
  refine g_callVI C K (c_X8_hasPerson W9 hb_482918L hb_482918k a0  hU) hb_482918L hb_482918k (by decide) rfl v_11_133 rfl ⟨rfl, rfl⟩ ⟨Nat.le_of_ble_eq_true rfl, Nat.le_of_ble_eq_true rfl⟩ (Nat.le_of_ble_eq_true rfl) ⟨Nat.le_of_ble_eq_true rfl, Nat.le_of_ble_eq_true rfl⟩ dX11_rise_5 rfl (st := []) (fun x_482920 I_482921 J_482922 h_482923 => ?_)
  obtain ⟨rfl, rfl, rx_482920, ex_482920⟩ := h_482923
  refine g_if_ne C (tgt := 13) dX11_rise_8 (by decide) (fun h_482924 => ?_) (fun h_482924 => ?_)
  · skip
    have n_482925 : ¬ x_482920 = 0 := h_482924
    have r_482926 := ne_lo (lo := 1) n_482925 rx_482920 rc_0 rfl (by decide)
    have r_482927 := rg_i (rg_all a0) ((ex_482920) (rg_nz r_482926 (by decide))) (lo := 0) (hi := 6) (by decide) (by decide)
    refine g_aload_n C 0 dX11_rise_13 rfl rfl ?_
    refine g_getR C K hLx hkx f_11_38 hb_482917 dX11_rise_14 ?_
    refine g_aload_n C 0 dX11_rise_17 rfl rfl ?_
    refine g_getR C K hLx hkx f_11_28 hb_482919 dX11_rise_18 ?_
    refine g_callVV C K (c_X5_note W9 hb_482917L hb_482917k hb_482919L hb_482919k  hU) hb_482917L hb_482917k (by decide) rfl v_11_225 rfl ⟨rfl, rfl⟩ ⟨Nat.le_of_ble_eq_true rfl, Nat.le_of_ble_eq_true rfl⟩ (Nat.le_of_ble_eq_true rfl) ⟨Nat.le_of_ble_eq_true rfl, Nat.le_of_ble_eq_true rfl⟩ dX11_rise_21 rfl (st := []) (fun I_482929 J_482930 h_482931 => ?_)
    obtain ⟨hUI_482929, hFI_482929, hGJ_482930⟩ := h_482931
    have hF_482932 := fq_tr hF hFI_482929 (by decide)
    have hG_482933 := fq_tr hG hGJ_482930 (by decide)
    refine g_aload_n C 0 dX11_rise_24 rfl rfl ?_
    refine g_aload_n C 0 dX11_rise_25 rfl rfl ?_
    refine g_getR C K hLx hkx f_11_28 hb_482919 dX11_rise_26 ?_
    refine g_iload_n C 1 dX11_rise_29 rfl rfl ?_
    refine g_callVI C K (c_X1_tryToRise W9 hb_482919L hb_482919k a0 (r_482927) hUI_482929) hb_482919L hb_482919k (by decide) rfl v_11_238 rfl ⟨rfl, rfl⟩ ⟨Nat.le_of_ble_eq_true rfl, Nat.le_of_ble_eq_true rfl⟩ (Nat.le_of_ble_eq_true rfl) ⟨Nat.le_of_ble_eq_true rfl, Nat.le_of_ble_eq_true rfl⟩ dX11_rise_30 rfl (st := [.ref x]) (fun x_482934 I_482935 J_482936 h_482937 => ?_)
    obtain ⟨hUI_482935, hFI_482935, hGJ_482936, rx_482934⟩ := h_482937
    have hF_482938 := fq_tr hF_482932 hFI_482935 (by decide)
    have hG_482939 := fq_tr hG_482933 hGJ_482936 (by decide)
    refine g_callVI C K (c_X11_keptIfDone W9 hLx hkx x_482934 (rg_w rx_482934 (by decide) (by decide)) hUI_482935) hLx hkx (by decide) rfl v_11_232 rfl ⟨rfl, rfl⟩ ⟨Nat.le_of_ble_eq_true rfl, Nat.le_of_ble_eq_true rfl⟩ (Nat.le_of_ble_eq_true rfl) ⟨Nat.le_of_ble_eq_true rfl, Nat.le_of_ble_eq_true rfl⟩ dX11_rise_33 rfl (st := []) (fun x_482940 I_482941 J_482942 h_482943 => ?_)
    obtain ⟨hUI_482941, hFI_482941, hGJ_482942, rx_482940⟩ := h_482943
    have hF_482944 := fq_tr hF_482938 hFI_482941 (by decide)
    have hG_482945 := fq_tr hG_482939 hGJ_482942 (by decide)
    exact g_zret (ty := .int) (r := x_482940) B K rfl (rfl) ⟨hUI_482941, hF_482944, hG_482945, rg_w rx_482940 (by decide) (by decide)⟩ dX11_rise_36
  · skip
    have r_482946 := (⟨(rx_482920).1, (eq_rg (h_482924) rc_0).2⟩ : Rg 0 0 x_482920)
    refine g_iconst C (v := (-1)) dX11_rise_11 (by decide) ?_
    exact g_zret (ty := .int) (r := (-1)) B K rfl (rfl) ⟨hU, hF, hG, rg_w rc_m1 (by decide) (by decide)⟩ dX11_rise_12
set_option maxRecDepth 100000 in
set_option maxHeartbeats 8000000 in
theorem c_X1_tryToRefuse {l : Launch} {D : va_G} {cy : Nat → ClassId} {L : List Nat} {κ ln : Nat → Nat} {R : Nat → Nat → Option Nat} {I : Nat → Nat → Int32} {J : Nat → Nat → Int64} {ow : Nat → Nat × Nat} (W9 : ∀ a ∈ L, Shp L κ ln R ow a) {x : Nat} (hLx : x ∈ L) (hkx : κ x = 1) (a0 : Int32) (ra0 : Rg 0 6 a0) (hU : Iv L κ R ow I) : CtI l yX1_tryToRefuse cX1_tryToRefuse 2 (some .int) { frames := 1, cells := 0, slots := 0, locals := 21 } D cy L κ ln R I J [.ref x, .int a0] (fun r I2 J2 => Iv L κ R ow I2 ∧ Fq L κ ow [108] I I2 ∧ Fq L κ ow [] J J2 ∧ Rg 0 2 r) := by
  refine CtI.of (by decide +kernel) (Nat.le_of_ble_eq_true rfl) ?_
  intro p e s m below meth c B K
  have C := B.1
  have hF : Fq L κ ow [108] I I := fq_rf
  have hG : Fq L κ ow [] J J := fq_rf
  refine g_lo (is := [0, 1]) (lo2 := [(0, .ref x), (1, .int a0)]) rfl ?_
  refine g_aload_n C 0 dX1_tryToRefuse_0 rfl rfl ?_
  refine g_iload_n C 1 dX1_tryToRefuse_1 rfl rfl ?_
  refine g_callVI C K (c_X1_lives W9 hLx hkx a0 (ra0) hU) hLx hkx (by decide) rfl v_1_115 rfl ⟨rfl, rfl⟩ ⟨Nat.le_of_ble_eq_true rfl, Nat.le_of_ble_eq_true rfl⟩ (Nat.le_of_ble_eq_true rfl) ⟨Nat.le_of_ble_eq_true rfl, Nat.le_of_ble_eq_true rfl⟩ dX1_tryToRefuse_2 rfl (st := []) (fun x_482987 I_482988 J_482989 h_482990 => ?_)
  obtain ⟨rfl, rfl, rx_482987⟩ := h_482990
  refine g_if_ne C (tgt := 10) dX1_tryToRefuse_5 (by decide) (fun h_482991 => ?_) (fun h_482991 => ?_)
  · skip
    have n_482992 : ¬ x_482987 = 0 := h_482991
    have r_482993 := ne_lo (lo := 1) n_482992 rx_482987 rc_0 rfl (by decide)
    refine g_aload_n C 0 dX1_tryToRefuse_10 rfl rfl ?_
    obtain ⟨x_482994, hx_482994, rx_482994⟩ := ex_get (I := I) (a := x) (j := 8) (lo := (-2147483648)) (hi := 2147483647) hU.1 hLx (ro_o hkx (by decide)) rfl
    refine g_getI C K hLx hkx f_1_34 (v := x_482994) hx_482994 dX1_tryToRefuse_11 ?_
    refine g_iload_n C 1 dX1_tryToRefuse_14 rfl rfl ?_
    obtain ⟨x_482995, hx_482995, rx_482995⟩ := ex_any (z0 := x_482994 >>> (a0 &&& 31))
    refine g_ishr C (v := x_482995) dX1_tryToRefuse_15 hx_482995 ?_
    refine g_iconst C (v := 1) dX1_tryToRefuse_16 (by decide) ?_
    obtain ⟨x_482996, hx_482996, rx_482996⟩ := ex_andr (x := x_482995) (y := 1) (b := 1) (rg_w rc_1 (by decide) (by decide))
    refine g_iand C (v := x_482996) dX1_tryToRefuse_17 hx_482996 ?_
    refine g_if_eq C (tgt := 23) dX1_tryToRefuse_18 (by decide) (fun h_482997 => ?_) (fun h_482997 => ?_)
    · skip
      have r_482998 := (⟨(rx_482996).1, (eq_rg (h_482997) rc_0).2⟩ : Rg 0 0 x_482996)
      refine g_aload_n C 0 dX1_tryToRefuse_23 rfl rfl ?_
      refine g_dup C dX1_tryToRefuse_24 rfl ?_
      refine g_getI C K hLx hkx f_1_34 (v := x_482994) hx_482994 dX1_tryToRefuse_25 ?_
      refine g_iconst C (v := 1) dX1_tryToRefuse_28 (by decide) ?_
      refine g_iload_n C 1 dX1_tryToRefuse_29 rfl rfl ?_
      obtain ⟨x_482999, hx_482999, rx_482999⟩ := ex_shl (x := 1) (y := a0) 6 64 rfl (ra0) (by decide)
      refine g_ishl C (v := x_482999) dX1_tryToRefuse_30 hx_482999 ?_
      obtain ⟨x_483000, hx_483000, rx_483000⟩ := ex_any (z0 := x_482994 ||| x_482999)
      refine g_ior C (v := x_483000) dX1_tryToRefuse_31 hx_483000 ?_
      refine h_putI C K hLx hkx f_1_34 p_1_8 dX1_tryToRefuse_32 (fun I_483001 hI_483001 => ?_)
      have hU_483002 := iv_put W9 hU hI_483001 (ro_o hkx (by decide)) (lo := (-2147483648)) (hi := 2147483647) (rfl) (rx_483000) rfl
      have hF_483003 := fq_puto hF hI_483001 hkx (by decide) (by decide)
      refine g_iconst C (v := 0) dX1_tryToRefuse_35 (by decide) ?_
      exact g_zret (ty := .int) (r := 0) B K rfl (rfl) ⟨hU_483002, hF_483003, hG, rg_w rc_0 (by decide) (by decide)⟩ dX1_tryToRefuse_36
    · skip
      have n_483004 : ¬ x_482996 = 0 := h_482997
      have r_483005 := ne_lo (lo := 1) n_483004 rx_482996 rc_0 rfl (by decide)
      refine g_iconst C (v := 2) dX1_tryToRefuse_21 (by decide) ?_
      exact g_zret (ty := .int) (r := 2) B K rfl (rfl) ⟨hU, hF, hG, rg_w rc_2 (by decide) (by decide)⟩ dX1_tryToRefuse_22
  · skip
    have r_483006 := (⟨(rx_482987).1, (eq_rg (h_482991) rc_0).2⟩ : Rg 0 0 x_482987)
    refine g_iconst C (v := 1) dX1_tryToRefuse_8 (by decide) ?_
    exact g_zret (ty := .int) (r := 1) B K rfl (rfl) ⟨hU, hF, hG, rg_w rc_1 (by decide) (by decide)⟩ dX1_tryToRefuse_9
set_option maxRecDepth 100000 in
set_option maxHeartbeats 8000000 in
theorem c_X11_refuse {l : Launch} {D : va_G} {cy : Nat → ClassId} {L : List Nat} {κ ln : Nat → Nat} {R : Nat → Nat → Option Nat} {I : Nat → Nat → Int32} {J : Nat → Nat → Int64} {ow : Nat → Nat × Nat} (W9 : ∀ a ∈ L, Shp L κ ln R ow a) {x : Nat} (hLx : x ∈ L) (hkx : κ x = 11) (a0 : Int32) (hU : Iv L κ R ow I) : CtI l yX11_refuse cX11_refuse 2 (some .int) { frames := 3, cells := 0, slots := 0, locals := 102 } D cy L κ ln R I J [.ref x, .int a0] (fun r I2 J2 => Iv L κ R ow I2 ∧ Fq L κ ow [107, 108, 109, 110, 111, 112, 501, 502, 16100, 16200, 16300, 16400, 16500, 16600] I I2 ∧ Fq L κ ow [] J J2 ∧ Rg (-1) 3 r) := by
  refine CtI.of (by decide +kernel) (Nat.le_of_ble_eq_true rfl) ?_
  intro p e s m below meth c B K
  have C := B.1
  have hF : Fq L κ ow [107, 108, 109, 110, 111, 112, 501, 502, 16100, 16200, 16300, 16400, 16500, 16600] I I := fq_rf
  have hG : Fq L κ ow [] J J := fq_rf
  obtain ⟨b_483067, hb_483067, hb_483067L, hb_483067k⟩ := shp_o (W9 x hLx) hkx 4 5 rfl (by decide)
  obtain ⟨b_483068, hb_483068, hb_483068L, hb_483068k⟩ := shp_o (W9 x hLx) hkx 1 8 rfl (by decide)
  obtain ⟨b_483069, hb_483069, hb_483069L, hb_483069k⟩ := shp_o (W9 x hLx) hkx 2 1 rfl (by decide)
  refine g_lo (is := [0, 1]) (lo2 := [(0, .ref x), (1, .int a0)]) rfl ?_
  refine g_aload_n C 0 dX11_refuse_0 rfl rfl ?_
  refine g_getR C K hLx hkx f_11_19 hb_483068 dX11_refuse_1 ?_
  refine g_iload_n C 1 dX11_refuse_4 rfl rfl ?_
  refine g_callVI C K (c_X8_hasPerson W9 hb_483068L hb_483068k a0  hU) hb_483068L hb_483068k (by decide) rfl v_11_133 rfl ⟨rfl, rfl⟩ ⟨Nat.le_of_ble_eq_true rfl, Nat.le_of_ble_eq_true rfl⟩ (Nat.le_of_ble_eq_true rfl) ⟨Nat.le_of_ble_eq_true rfl, Nat.le_of_ble_eq_true rfl⟩ dX11_refuse_5 rfl (st := []) (fun x_483070 I_483071 J_483072 h_483073 => ?_)
  obtain ⟨rfl, rfl, rx_483070, ex_483070⟩ := h_483073
  refine g_if_ne C (tgt := 13) dX11_refuse_8 (by decide) (fun h_483074 => ?_) (fun h_483074 => ?_)
  · skip
    have n_483075 : ¬ x_483070 = 0 := h_483074
    have r_483076 := ne_lo (lo := 1) n_483075 rx_483070 rc_0 rfl (by decide)
    have r_483077 := rg_i (rg_all a0) ((ex_483070) (rg_nz r_483076 (by decide))) (lo := 0) (hi := 6) (by decide) (by decide)
    refine g_aload_n C 0 dX11_refuse_13 rfl rfl ?_
    refine g_getR C K hLx hkx f_11_38 hb_483067 dX11_refuse_14 ?_
    refine g_aload_n C 0 dX11_refuse_17 rfl rfl ?_
    refine g_getR C K hLx hkx f_11_28 hb_483069 dX11_refuse_18 ?_
    refine g_callVV C K (c_X5_note W9 hb_483067L hb_483067k hb_483069L hb_483069k  hU) hb_483067L hb_483067k (by decide) rfl v_11_225 rfl ⟨rfl, rfl⟩ ⟨Nat.le_of_ble_eq_true rfl, Nat.le_of_ble_eq_true rfl⟩ (Nat.le_of_ble_eq_true rfl) ⟨Nat.le_of_ble_eq_true rfl, Nat.le_of_ble_eq_true rfl⟩ dX11_refuse_21 rfl (st := []) (fun I_483079 J_483080 h_483081 => ?_)
    obtain ⟨hUI_483079, hFI_483079, hGJ_483080⟩ := h_483081
    have hF_483082 := fq_tr hF hFI_483079 (by decide)
    have hG_483083 := fq_tr hG hGJ_483080 (by decide)
    refine g_aload_n C 0 dX11_refuse_24 rfl rfl ?_
    refine g_aload_n C 0 dX11_refuse_25 rfl rfl ?_
    refine g_getR C K hLx hkx f_11_28 hb_483069 dX11_refuse_26 ?_
    refine g_iload_n C 1 dX11_refuse_29 rfl rfl ?_
    refine g_callVI C K (c_X1_tryToRefuse W9 hb_483069L hb_483069k a0 (r_483077) hUI_483079) hb_483069L hb_483069k (by decide) rfl v_11_241 rfl ⟨rfl, rfl⟩ ⟨Nat.le_of_ble_eq_true rfl, Nat.le_of_ble_eq_true rfl⟩ (Nat.le_of_ble_eq_true rfl) ⟨Nat.le_of_ble_eq_true rfl, Nat.le_of_ble_eq_true rfl⟩ dX11_refuse_30 rfl (st := [.ref x]) (fun x_483084 I_483085 J_483086 h_483087 => ?_)
    obtain ⟨hUI_483085, hFI_483085, hGJ_483086, rx_483084⟩ := h_483087
    have hF_483088 := fq_tr hF_483082 hFI_483085 (by decide)
    have hG_483089 := fq_tr hG_483083 hGJ_483086 (by decide)
    refine g_callVI C K (c_X11_keptIfDone W9 hLx hkx x_483084 (rg_w rx_483084 (by decide) (by decide)) hUI_483085) hLx hkx (by decide) rfl v_11_232 rfl ⟨rfl, rfl⟩ ⟨Nat.le_of_ble_eq_true rfl, Nat.le_of_ble_eq_true rfl⟩ (Nat.le_of_ble_eq_true rfl) ⟨Nat.le_of_ble_eq_true rfl, Nat.le_of_ble_eq_true rfl⟩ dX11_refuse_33 rfl (st := []) (fun x_483090 I_483091 J_483092 h_483093 => ?_)
    obtain ⟨hUI_483091, hFI_483091, hGJ_483092, rx_483090⟩ := h_483093
    have hF_483094 := fq_tr hF_483088 hFI_483091 (by decide)
    have hG_483095 := fq_tr hG_483089 hGJ_483092 (by decide)
    exact g_zret (ty := .int) (r := x_483090) B K rfl (rfl) ⟨hUI_483091, hF_483094, hG_483095, rg_w rx_483090 (by decide) (by decide)⟩ dX11_refuse_36
  · skip
    have r_483096 := (⟨(rx_483070).1, (eq_rg (h_483074) rc_0).2⟩ : Rg 0 0 x_483070)
    refine g_iconst C (v := (-1)) dX11_refuse_11 (by decide) ?_
    exact g_zret (ty := .int) (r := (-1)) B K rfl (rfl) ⟨hU, hF, hG, rg_w rc_m1 (by decide) (by decide)⟩ dX11_refuse_12
set_option maxRecDepth 100000 in
set_option maxHeartbeats 8000000 in
theorem c_X1_tryToAccept {l : Launch} {D : va_G} {cy : Nat → ClassId} {L : List Nat} {κ ln : Nat → Nat} {R : Nat → Nat → Option Nat} {I : Nat → Nat → Int32} {J : Nat → Nat → Int64} {ow : Nat → Nat × Nat} (W9 : ∀ a ∈ L, Shp L κ ln R ow a) {x : Nat} (hLx : x ∈ L) (hkx : κ x = 1) (a0 : Int32) (ra0 : Rg 0 6 a0) (hU : Iv L κ R ow I) : CtI l yX1_tryToAccept cX1_tryToAccept 2 (some .int) { frames := 1, cells := 0, slots := 0, locals := 21 } D cy L κ ln R I J [.ref x, .int a0] (fun r I2 J2 => Iv L κ R ow I2 ∧ Fq L κ ow [108] I I2 ∧ Fq L κ ow [] J J2 ∧ Rg 0 2 r) := by
  refine CtI.of (by decide +kernel) (Nat.le_of_ble_eq_true rfl) ?_
  intro p e s m below meth c B K
  have C := B.1
  have hF : Fq L κ ow [108] I I := fq_rf
  have hG : Fq L κ ow [] J J := fq_rf
  refine g_lo (is := [0, 1]) (lo2 := [(0, .ref x), (1, .int a0)]) rfl ?_
  refine g_aload_n C 0 dX1_tryToAccept_0 rfl rfl ?_
  refine g_iload_n C 1 dX1_tryToAccept_1 rfl rfl ?_
  refine g_callVI C K (c_X1_lives W9 hLx hkx a0 (ra0) hU) hLx hkx (by decide) rfl v_1_115 rfl ⟨rfl, rfl⟩ ⟨Nat.le_of_ble_eq_true rfl, Nat.le_of_ble_eq_true rfl⟩ (Nat.le_of_ble_eq_true rfl) ⟨Nat.le_of_ble_eq_true rfl, Nat.le_of_ble_eq_true rfl⟩ dX1_tryToAccept_2 rfl (st := []) (fun x_483139 I_483140 J_483141 h_483142 => ?_)
  obtain ⟨rfl, rfl, rx_483139⟩ := h_483142
  refine g_if_ne C (tgt := 10) dX1_tryToAccept_5 (by decide) (fun h_483143 => ?_) (fun h_483143 => ?_)
  · skip
    have n_483144 : ¬ x_483139 = 0 := h_483143
    have r_483145 := ne_lo (lo := 1) n_483144 rx_483139 rc_0 rfl (by decide)
    refine g_aload_n C 0 dX1_tryToAccept_10 rfl rfl ?_
    obtain ⟨x_483146, hx_483146, rx_483146⟩ := ex_get (I := I) (a := x) (j := 8) (lo := (-2147483648)) (hi := 2147483647) hU.1 hLx (ro_o hkx (by decide)) rfl
    refine g_getI C K hLx hkx f_1_34 (v := x_483146) hx_483146 dX1_tryToAccept_11 ?_
    refine g_iload_n C 1 dX1_tryToAccept_14 rfl rfl ?_
    obtain ⟨x_483147, hx_483147, rx_483147⟩ := ex_any (z0 := x_483146 >>> (a0 &&& 31))
    refine g_ishr C (v := x_483147) dX1_tryToAccept_15 hx_483147 ?_
    refine g_iconst C (v := 1) dX1_tryToAccept_16 (by decide) ?_
    obtain ⟨x_483148, hx_483148, rx_483148⟩ := ex_andr (x := x_483147) (y := 1) (b := 1) (rg_w rc_1 (by decide) (by decide))
    refine g_iand C (v := x_483148) dX1_tryToAccept_17 hx_483148 ?_
    refine g_if_ne C (tgt := 23) dX1_tryToAccept_18 (by decide) (fun h_483149 => ?_) (fun h_483149 => ?_)
    · skip
      have n_483150 : ¬ x_483148 = 0 := h_483149
      have r_483151 := ne_lo (lo := 1) n_483150 rx_483148 rc_0 rfl (by decide)
      refine g_aload_n C 0 dX1_tryToAccept_23 rfl rfl ?_
      refine g_dup C dX1_tryToAccept_24 rfl ?_
      refine g_getI C K hLx hkx f_1_34 (v := x_483146) hx_483146 dX1_tryToAccept_25 ?_
      refine g_iconst C (v := 1) dX1_tryToAccept_28 (by decide) ?_
      refine g_iload_n C 1 dX1_tryToAccept_29 rfl rfl ?_
      obtain ⟨x_483152, hx_483152, rx_483152⟩ := ex_shl (x := 1) (y := a0) 6 64 rfl (ra0) (by decide)
      refine g_ishl C (v := x_483152) dX1_tryToAccept_30 hx_483152 ?_
      refine g_iconst C (v := (-1)) dX1_tryToAccept_31 (by decide) ?_
      obtain ⟨x_483153, hx_483153, rx_483153⟩ := ex_any (z0 := x_483152 ^^^ (-1))
      refine g_ixor C (v := x_483153) dX1_tryToAccept_32 hx_483153 ?_
      obtain ⟨x_483154, hx_483154, rx_483154⟩ := ex_any (z0 := x_483146 &&& x_483153)
      refine g_iand C (v := x_483154) dX1_tryToAccept_33 hx_483154 ?_
      refine h_putI C K hLx hkx f_1_34 p_1_8 dX1_tryToAccept_34 (fun I_483155 hI_483155 => ?_)
      have hU_483156 := iv_put W9 hU hI_483155 (ro_o hkx (by decide)) (lo := (-2147483648)) (hi := 2147483647) (rfl) (rx_483154) rfl
      have hF_483157 := fq_puto hF hI_483155 hkx (by decide) (by decide)
      refine g_iconst C (v := 0) dX1_tryToAccept_37 (by decide) ?_
      exact g_zret (ty := .int) (r := 0) B K rfl (rfl) ⟨hU_483156, hF_483157, hG, rg_w rc_0 (by decide) (by decide)⟩ dX1_tryToAccept_38
    · skip
      have r_483158 := (⟨(rx_483148).1, (eq_rg (h_483149) rc_0).2⟩ : Rg 0 0 x_483148)
      refine g_iconst C (v := 2) dX1_tryToAccept_21 (by decide) ?_
      exact g_zret (ty := .int) (r := 2) B K rfl (rfl) ⟨hU, hF, hG, rg_w rc_2 (by decide) (by decide)⟩ dX1_tryToAccept_22
  · skip
    have r_483159 := (⟨(rx_483139).1, (eq_rg (h_483143) rc_0).2⟩ : Rg 0 0 x_483139)
    refine g_iconst C (v := 1) dX1_tryToAccept_8 (by decide) ?_
    exact g_zret (ty := .int) (r := 1) B K rfl (rfl) ⟨hU, hF, hG, rg_w rc_1 (by decide) (by decide)⟩ dX1_tryToAccept_9
set_option maxRecDepth 100000 in
set_option maxHeartbeats 8000000 in
theorem c_X11_accept {l : Launch} {D : va_G} {cy : Nat → ClassId} {L : List Nat} {κ ln : Nat → Nat} {R : Nat → Nat → Option Nat} {I : Nat → Nat → Int32} {J : Nat → Nat → Int64} {ow : Nat → Nat × Nat} (W9 : ∀ a ∈ L, Shp L κ ln R ow a) {x : Nat} (hLx : x ∈ L) (hkx : κ x = 11) (a0 : Int32) (hU : Iv L κ R ow I) : CtI l yX11_accept cX11_accept 2 (some .int) { frames := 3, cells := 0, slots := 0, locals := 102 } D cy L κ ln R I J [.ref x, .int a0] (fun r I2 J2 => Iv L κ R ow I2 ∧ Fq L κ ow [107, 108, 109, 110, 111, 112, 501, 502, 16100, 16200, 16300, 16400, 16500, 16600] I I2 ∧ Fq L κ ow [] J J2 ∧ Rg (-1) 3 r) := by
  refine CtI.of (by decide +kernel) (Nat.le_of_ble_eq_true rfl) ?_
  intro p e s m below meth c B K
  have C := B.1
  have hF : Fq L κ ow [107, 108, 109, 110, 111, 112, 501, 502, 16100, 16200, 16300, 16400, 16500, 16600] I I := fq_rf
  have hG : Fq L κ ow [] J J := fq_rf
  obtain ⟨b_483220, hb_483220, hb_483220L, hb_483220k⟩ := shp_o (W9 x hLx) hkx 4 5 rfl (by decide)
  obtain ⟨b_483221, hb_483221, hb_483221L, hb_483221k⟩ := shp_o (W9 x hLx) hkx 1 8 rfl (by decide)
  obtain ⟨b_483222, hb_483222, hb_483222L, hb_483222k⟩ := shp_o (W9 x hLx) hkx 2 1 rfl (by decide)
  refine g_lo (is := [0, 1]) (lo2 := [(0, .ref x), (1, .int a0)]) rfl ?_
  refine g_aload_n C 0 dX11_accept_0 rfl rfl ?_
  refine g_getR C K hLx hkx f_11_19 hb_483221 dX11_accept_1 ?_
  refine g_iload_n C 1 dX11_accept_4 rfl rfl ?_
  refine g_callVI C K (c_X8_hasPerson W9 hb_483221L hb_483221k a0  hU) hb_483221L hb_483221k (by decide) rfl v_11_133 rfl ⟨rfl, rfl⟩ ⟨Nat.le_of_ble_eq_true rfl, Nat.le_of_ble_eq_true rfl⟩ (Nat.le_of_ble_eq_true rfl) ⟨Nat.le_of_ble_eq_true rfl, Nat.le_of_ble_eq_true rfl⟩ dX11_accept_5 rfl (st := []) (fun x_483223 I_483224 J_483225 h_483226 => ?_)
  obtain ⟨rfl, rfl, rx_483223, ex_483223⟩ := h_483226
  refine g_if_ne C (tgt := 13) dX11_accept_8 (by decide) (fun h_483227 => ?_) (fun h_483227 => ?_)
  · skip
    have n_483228 : ¬ x_483223 = 0 := h_483227
    have r_483229 := ne_lo (lo := 1) n_483228 rx_483223 rc_0 rfl (by decide)
    have r_483230 := rg_i (rg_all a0) ((ex_483223) (rg_nz r_483229 (by decide))) (lo := 0) (hi := 6) (by decide) (by decide)
    refine g_aload_n C 0 dX11_accept_13 rfl rfl ?_
    refine g_getR C K hLx hkx f_11_38 hb_483220 dX11_accept_14 ?_
    refine g_aload_n C 0 dX11_accept_17 rfl rfl ?_
    refine g_getR C K hLx hkx f_11_28 hb_483222 dX11_accept_18 ?_
    refine g_callVV C K (c_X5_note W9 hb_483220L hb_483220k hb_483222L hb_483222k  hU) hb_483220L hb_483220k (by decide) rfl v_11_225 rfl ⟨rfl, rfl⟩ ⟨Nat.le_of_ble_eq_true rfl, Nat.le_of_ble_eq_true rfl⟩ (Nat.le_of_ble_eq_true rfl) ⟨Nat.le_of_ble_eq_true rfl, Nat.le_of_ble_eq_true rfl⟩ dX11_accept_21 rfl (st := []) (fun I_483232 J_483233 h_483234 => ?_)
    obtain ⟨hUI_483232, hFI_483232, hGJ_483233⟩ := h_483234
    have hF_483235 := fq_tr hF hFI_483232 (by decide)
    have hG_483236 := fq_tr hG hGJ_483233 (by decide)
    refine g_aload_n C 0 dX11_accept_24 rfl rfl ?_
    refine g_aload_n C 0 dX11_accept_25 rfl rfl ?_
    refine g_getR C K hLx hkx f_11_28 hb_483222 dX11_accept_26 ?_
    refine g_iload_n C 1 dX11_accept_29 rfl rfl ?_
    refine g_callVI C K (c_X1_tryToAccept W9 hb_483222L hb_483222k a0 (r_483230) hUI_483232) hb_483222L hb_483222k (by decide) rfl v_11_244 rfl ⟨rfl, rfl⟩ ⟨Nat.le_of_ble_eq_true rfl, Nat.le_of_ble_eq_true rfl⟩ (Nat.le_of_ble_eq_true rfl) ⟨Nat.le_of_ble_eq_true rfl, Nat.le_of_ble_eq_true rfl⟩ dX11_accept_30 rfl (st := [.ref x]) (fun x_483237 I_483238 J_483239 h_483240 => ?_)
    obtain ⟨hUI_483238, hFI_483238, hGJ_483239, rx_483237⟩ := h_483240
    have hF_483241 := fq_tr hF_483235 hFI_483238 (by decide)
    have hG_483242 := fq_tr hG_483236 hGJ_483239 (by decide)
    refine g_callVI C K (c_X11_keptIfDone W9 hLx hkx x_483237 (rg_w rx_483237 (by decide) (by decide)) hUI_483238) hLx hkx (by decide) rfl v_11_232 rfl ⟨rfl, rfl⟩ ⟨Nat.le_of_ble_eq_true rfl, Nat.le_of_ble_eq_true rfl⟩ (Nat.le_of_ble_eq_true rfl) ⟨Nat.le_of_ble_eq_true rfl, Nat.le_of_ble_eq_true rfl⟩ dX11_accept_33 rfl (st := []) (fun x_483243 I_483244 J_483245 h_483246 => ?_)
    obtain ⟨hUI_483244, hFI_483244, hGJ_483245, rx_483243⟩ := h_483246
    have hF_483247 := fq_tr hF_483241 hFI_483244 (by decide)
    have hG_483248 := fq_tr hG_483242 hGJ_483245 (by decide)
    exact g_zret (ty := .int) (r := x_483243) B K rfl (rfl) ⟨hUI_483244, hF_483247, hG_483248, rg_w rx_483243 (by decide) (by decide)⟩ dX11_accept_36
  · skip
    have r_483249 := (⟨(rx_483223).1, (eq_rg (h_483227) rc_0).2⟩ : Rg 0 0 x_483223)
    refine g_iconst C (v := (-1)) dX11_accept_11 (by decide) ?_
    exact g_zret (ty := .int) (r := (-1)) B K rfl (rfl) ⟨hU, hF, hG, rg_w rc_m1 (by decide) (by decide)⟩ dX11_accept_12
set_option maxRecDepth 100000 in
set_option maxHeartbeats 8000000 in
theorem c_X1_tryToDie {l : Launch} {D : va_G} {cy : Nat → ClassId} {L : List Nat} {κ ln : Nat → Nat} {R : Nat → Nat → Option Nat} {I : Nat → Nat → Int32} {J : Nat → Nat → Int64} {ow : Nat → Nat × Nat} (W9 : ∀ a ∈ L, Shp L κ ln R ow a) {x : Nat} (hLx : x ∈ L) (hkx : κ x = 1) (a0 : Int32) (ra0 : Rg 0 6 a0) (hU : Iv L κ R ow I) : CtI l yX1_tryToDie cX1_tryToDie 2 (some .int) { frames := 3, cells := 0, slots := 0, locals := 86 } D cy L κ ln R I J [.ref x, .int a0] (fun r I2 J2 => Iv L κ R ow I2 ∧ Fq L κ ow [107, 110, 112, 16100, 16200, 16300] I I2 ∧ Fq L κ ow [] J J2 ∧ Rg 0 1 r) := by
  refine CtI.of (by decide +kernel) (Nat.le_of_ble_eq_true rfl) ?_
  intro p e s m below meth c B K
  have C := B.1
  have hF : Fq L κ ow [107, 110, 112, 16100, 16200, 16300] I I := fq_rf
  have hG : Fq L κ ow [] J J := fq_rf
  obtain ⟨b_483300, hb_483300, hb_483300L, hb_483300k, hb_483300n, hb_483300o⟩ := shp_a (W9 x hLx) hkx 3 14 7 rfl (by decide)
  refine g_lo (is := [0, 1]) (lo2 := [(0, .ref x), (1, .int a0)]) rfl ?_
  refine g_aload_n C 0 dX1_tryToDie_0 rfl rfl ?_
  refine g_iload_n C 1 dX1_tryToDie_1 rfl rfl ?_
  refine g_callVI C K (c_X1_lives W9 hLx hkx a0 (ra0) hU) hLx hkx (by decide) rfl v_1_115 rfl ⟨rfl, rfl⟩ ⟨Nat.le_of_ble_eq_true rfl, Nat.le_of_ble_eq_true rfl⟩ (Nat.le_of_ble_eq_true rfl) ⟨Nat.le_of_ble_eq_true rfl, Nat.le_of_ble_eq_true rfl⟩ dX1_tryToDie_2 rfl (st := []) (fun x_483301 I_483302 J_483303 h_483304 => ?_)
  obtain ⟨rfl, rfl, rx_483301⟩ := h_483304
  refine g_if_ne C (tgt := 10) dX1_tryToDie_5 (by decide) (fun h_483305 => ?_) (fun h_483305 => ?_)
  · skip
    have n_483306 : ¬ x_483301 = 0 := h_483305
    have r_483307 := ne_lo (lo := 1) n_483306 rx_483301 rc_0 rfl (by decide)
    refine g_aload_n C 0 dX1_tryToDie_10 rfl rfl ?_
    refine g_dup C dX1_tryToDie_11 rfl ?_
    obtain ⟨x_483308, hx_483308, rx_483308⟩ := ex_get (I := I) (a := x) (j := 7) (lo := (-2147483648)) (hi := 2147483647) hU.1 hLx (ro_o hkx (by decide)) rfl
    refine g_getI C K hLx hkx f_1_30 (v := x_483308) hx_483308 dX1_tryToDie_12 ?_
    refine g_iconst C (v := 1) dX1_tryToDie_15 (by decide) ?_
    refine g_iload_n C 1 dX1_tryToDie_16 rfl rfl ?_
    obtain ⟨x_483309, hx_483309, rx_483309⟩ := ex_shl (x := 1) (y := a0) 6 64 rfl (ra0) (by decide)
    refine g_ishl C (v := x_483309) dX1_tryToDie_17 hx_483309 ?_
    obtain ⟨x_483310, hx_483310, rx_483310⟩ := ex_any (z0 := x_483308 ||| x_483309)
    refine g_ior C (v := x_483310) dX1_tryToDie_18 hx_483310 ?_
    refine h_putI C K hLx hkx f_1_30 p_1_7 dX1_tryToDie_19 (fun I_483311 hI_483311 => ?_)
    have hU_483312 := iv_put W9 hU hI_483311 (ro_o hkx (by decide)) (lo := (-2147483648)) (hi := 2147483647) (rfl) (rx_483310) rfl
    have hF_483313 := fq_puto hF hI_483311 hkx (by decide) (by decide)
    refine g_aload_n C 0 dX1_tryToDie_22 rfl rfl ?_
    refine g_getR C K hLx hkx f_1_18 hb_483300 dX1_tryToDie_23 ?_
    refine g_iload_n C 1 dX1_tryToDie_26 rfl rfl ?_
    obtain ⟨x_483314, hx_483314, rx_483314⟩ := ex_get (I := I_483311) (a := b_483300) (j := a0.toNatClampNeg) (lo := (-2147483648)) (hi := 2147483647) hU_483312.1 hb_483300L (ro_a hb_483300k (by decide) hb_483300o hkx rfl) (rfl)
    refine h_iald C K hb_483300L hb_483300k (v := x_483314) (a0.toNatClampNeg) (rfl) (ix_0 ra0 (by decide)) (ix_lt ra0 (by decide) hb_483300n (by decide)) hx_483314 dX1_tryToDie_27 ?_
    refine g_if_le C (tgt := 36) dX1_tryToDie_28 (by decide) (fun h_483315 => ?_) (fun h_483315 => ?_)
    · skip
      have r_483316 := le_l (h_483315) rx_483314 rc_0
      refine g_iconst C (v := 0) dX1_tryToDie_36 (by decide) ?_
      exact g_zret (ty := .int) (r := 0) B K rfl (rfl) ⟨hU_483312, hF_483313, hG, rg_w rc_0 (by decide) (by decide)⟩ dX1_tryToDie_37
    · skip
      have r_483317 := lt_r (lo := 1) (nle h_483315) rc_0 rx_483314 (by decide)
      refine g_aload_n C 0 dX1_tryToDie_31 rfl rfl ?_
      refine g_iload_n C 1 dX1_tryToDie_32 rfl rfl ?_
      refine g_callVV C K (c_X1_passOn W9 hLx hkx a0 (ra0) hU_483312) hLx hkx (by decide) rfl v_1_119 rfl ⟨rfl, rfl⟩ ⟨Nat.le_of_ble_eq_true rfl, Nat.le_of_ble_eq_true rfl⟩ (Nat.le_of_ble_eq_true rfl) ⟨Nat.le_of_ble_eq_true rfl, Nat.le_of_ble_eq_true rfl⟩ dX1_tryToDie_33 rfl (st := []) (fun I_483319 J_483320 h_483321 => ?_)
      obtain ⟨hUI_483319, hFI_483319, hGJ_483320⟩ := h_483321
      have hF_483322 := fq_tr hF_483313 hFI_483319 (by decide)
      have hG_483323 := fq_tr hG hGJ_483320 (by decide)
      refine g_iconst C (v := 0) dX1_tryToDie_36 (by decide) ?_
      exact g_zret (ty := .int) (r := 0) B K rfl (rfl) ⟨hUI_483319, hF_483322, hG_483323, rg_w rc_0 (by decide) (by decide)⟩ dX1_tryToDie_37
  · skip
    have r_483324 := (⟨(rx_483301).1, (eq_rg (h_483305) rc_0).2⟩ : Rg 0 0 x_483301)
    refine g_iconst C (v := 1) dX1_tryToDie_8 (by decide) ?_
    exact g_zret (ty := .int) (r := 1) B K rfl (rfl) ⟨hU, hF, hG, rg_w rc_1 (by decide) (by decide)⟩ dX1_tryToDie_9
set_option maxRecDepth 100000 in
set_option maxHeartbeats 8000000 in
theorem c_X11_die {l : Launch} {D : va_G} {cy : Nat → ClassId} {L : List Nat} {κ ln : Nat → Nat} {R : Nat → Nat → Option Nat} {I : Nat → Nat → Int32} {J : Nat → Nat → Int64} {ow : Nat → Nat × Nat} (W9 : ∀ a ∈ L, Shp L κ ln R ow a) {x : Nat} (hLx : x ∈ L) (hkx : κ x = 11) (a0 : Int32) (hU : Iv L κ R ow I) : CtI l yX11_die cX11_die 2 (some .int) { frames := 4, cells := 0, slots := 0, locals := 107 } D cy L κ ln R I J [.ref x, .int a0] (fun r I2 J2 => Iv L κ R ow I2 ∧ Fq L κ ow [107, 108, 109, 110, 111, 112, 501, 502, 16100, 16200, 16300, 16400, 16500, 16600] I I2 ∧ Fq L κ ow [] J J2 ∧ Rg (-1) 3 r) := by
  refine CtI.of (by decide +kernel) (Nat.le_of_ble_eq_true rfl) ?_
  intro p e s m below meth c B K
  have C := B.1
  have hF : Fq L κ ow [107, 108, 109, 110, 111, 112, 501, 502, 16100, 16200, 16300, 16400, 16500, 16600] I I := fq_rf
  have hG : Fq L κ ow [] J J := fq_rf
  obtain ⟨b_483385, hb_483385, hb_483385L, hb_483385k⟩ := shp_o (W9 x hLx) hkx 4 5 rfl (by decide)
  obtain ⟨b_483386, hb_483386, hb_483386L, hb_483386k⟩ := shp_o (W9 x hLx) hkx 1 8 rfl (by decide)
  obtain ⟨b_483387, hb_483387, hb_483387L, hb_483387k⟩ := shp_o (W9 x hLx) hkx 2 1 rfl (by decide)
  refine g_lo (is := [0, 1]) (lo2 := [(0, .ref x), (1, .int a0)]) rfl ?_
  refine g_aload_n C 0 dX11_die_0 rfl rfl ?_
  refine g_getR C K hLx hkx f_11_19 hb_483386 dX11_die_1 ?_
  refine g_iload_n C 1 dX11_die_4 rfl rfl ?_
  refine g_callVI C K (c_X8_hasPerson W9 hb_483386L hb_483386k a0  hU) hb_483386L hb_483386k (by decide) rfl v_11_133 rfl ⟨rfl, rfl⟩ ⟨Nat.le_of_ble_eq_true rfl, Nat.le_of_ble_eq_true rfl⟩ (Nat.le_of_ble_eq_true rfl) ⟨Nat.le_of_ble_eq_true rfl, Nat.le_of_ble_eq_true rfl⟩ dX11_die_5 rfl (st := []) (fun x_483388 I_483389 J_483390 h_483391 => ?_)
  obtain ⟨rfl, rfl, rx_483388, ex_483388⟩ := h_483391
  refine g_if_ne C (tgt := 13) dX11_die_8 (by decide) (fun h_483392 => ?_) (fun h_483392 => ?_)
  · skip
    have n_483393 : ¬ x_483388 = 0 := h_483392
    have r_483394 := ne_lo (lo := 1) n_483393 rx_483388 rc_0 rfl (by decide)
    have r_483395 := rg_i (rg_all a0) ((ex_483388) (rg_nz r_483394 (by decide))) (lo := 0) (hi := 6) (by decide) (by decide)
    refine g_aload_n C 0 dX11_die_13 rfl rfl ?_
    refine g_getR C K hLx hkx f_11_38 hb_483385 dX11_die_14 ?_
    refine g_aload_n C 0 dX11_die_17 rfl rfl ?_
    refine g_getR C K hLx hkx f_11_28 hb_483387 dX11_die_18 ?_
    refine g_callVV C K (c_X5_note W9 hb_483385L hb_483385k hb_483387L hb_483387k  hU) hb_483385L hb_483385k (by decide) rfl v_11_225 rfl ⟨rfl, rfl⟩ ⟨Nat.le_of_ble_eq_true rfl, Nat.le_of_ble_eq_true rfl⟩ (Nat.le_of_ble_eq_true rfl) ⟨Nat.le_of_ble_eq_true rfl, Nat.le_of_ble_eq_true rfl⟩ dX11_die_21 rfl (st := []) (fun I_483397 J_483398 h_483399 => ?_)
    obtain ⟨hUI_483397, hFI_483397, hGJ_483398⟩ := h_483399
    have hF_483400 := fq_tr hF hFI_483397 (by decide)
    have hG_483401 := fq_tr hG hGJ_483398 (by decide)
    refine g_aload_n C 0 dX11_die_24 rfl rfl ?_
    refine g_aload_n C 0 dX11_die_25 rfl rfl ?_
    refine g_getR C K hLx hkx f_11_28 hb_483387 dX11_die_26 ?_
    refine g_iload_n C 1 dX11_die_29 rfl rfl ?_
    refine g_callVI C K (c_X1_tryToDie W9 hb_483387L hb_483387k a0 (r_483395) hUI_483397) hb_483387L hb_483387k (by decide) rfl v_11_247 rfl ⟨rfl, rfl⟩ ⟨Nat.le_of_ble_eq_true rfl, Nat.le_of_ble_eq_true rfl⟩ (Nat.le_of_ble_eq_true rfl) ⟨Nat.le_of_ble_eq_true rfl, Nat.le_of_ble_eq_true rfl⟩ dX11_die_30 rfl (st := [.ref x]) (fun x_483402 I_483403 J_483404 h_483405 => ?_)
    obtain ⟨hUI_483403, hFI_483403, hGJ_483404, rx_483402⟩ := h_483405
    have hF_483406 := fq_tr hF_483400 hFI_483403 (by decide)
    have hG_483407 := fq_tr hG_483401 hGJ_483404 (by decide)
    refine g_callVI C K (c_X11_keptIfDone W9 hLx hkx x_483402 (rg_w rx_483402 (by decide) (by decide)) hUI_483403) hLx hkx (by decide) rfl v_11_232 rfl ⟨rfl, rfl⟩ ⟨Nat.le_of_ble_eq_true rfl, Nat.le_of_ble_eq_true rfl⟩ (Nat.le_of_ble_eq_true rfl) ⟨Nat.le_of_ble_eq_true rfl, Nat.le_of_ble_eq_true rfl⟩ dX11_die_33 rfl (st := []) (fun x_483408 I_483409 J_483410 h_483411 => ?_)
    obtain ⟨hUI_483409, hFI_483409, hGJ_483410, rx_483408⟩ := h_483411
    have hF_483412 := fq_tr hF_483406 hFI_483409 (by decide)
    have hG_483413 := fq_tr hG_483407 hGJ_483410 (by decide)
    exact g_zret (ty := .int) (r := x_483408) B K rfl (rfl) ⟨hUI_483409, hF_483412, hG_483413, rg_w rx_483408 (by decide) (by decide)⟩ dX11_die_36
  · skip
    have r_483414 := (⟨(rx_483388).1, (eq_rg (h_483392) rc_0).2⟩ : Rg 0 0 x_483388)
    refine g_iconst C (v := (-1)) dX11_die_11 (by decide) ?_
    exact g_zret (ty := .int) (r := (-1)) B K rfl (rfl) ⟨hU, hF, hG, rg_w rc_m1 (by decide) (by decide)⟩ dX11_die_12
set_option maxRecDepth 100000 in
set_option maxHeartbeats 8000000 in
theorem c_X11_keptIfAny {l : Launch} {D : va_G} {cy : Nat → ClassId} {L : List Nat} {κ ln : Nat → Nat} {R : Nat → Nat → Option Nat} {I : Nat → Nat → Int32} {J : Nat → Nat → Int64} {ow : Nat → Nat × Nat} (W9 : ∀ a ∈ L, Shp L κ ln R ow a) {x : Nat} (hLx : x ∈ L) (hkx : κ x = 11) (a0 : Int32) (ra0 : Rg 0 2147483647 a0) (hU : Iv L κ R ow I) : CtI l yX11_keptIfAny cX11_keptIfAny 2 (some .int) { frames := 2, cells := 0, slots := 0, locals := 80 } D cy L κ ln R I J [.ref x, .int a0] (fun r I2 J2 => Iv L κ R ow I2 ∧ Fq L κ ow [501, 502] I I2 ∧ Fq L κ ow [] J J2 ∧ Rg 0 2147483647 r) := by
  refine CtI.of (by decide +kernel) (Nat.le_of_ble_eq_true rfl) ?_
  intro p e s m below meth c B K
  have C := B.1
  have hF : Fq L κ ow [501, 502] I I := fq_rf
  have hG : Fq L κ ow [] J J := fq_rf
  obtain ⟨b_483435, hb_483435, hb_483435L, hb_483435k⟩ := shp_o (W9 x hLx) hkx 4 5 rfl (by decide)
  refine g_lo (is := [0, 1]) (lo2 := [(0, .ref x), (1, .int a0)]) rfl ?_
  refine g_iload_n C 1 dX11_keptIfAny_0 rfl rfl ?_
  refine g_if_le C (tgt := 11) dX11_keptIfAny_1 (by decide) (fun h_483436 => ?_) (fun h_483436 => ?_)
  · skip
    have r_483437 := le_l (h_483436) ra0 rc_0
    refine g_iload_n C 1 dX11_keptIfAny_11 rfl rfl ?_
    exact g_zret (ty := .int) (r := a0) B K rfl (rfl) ⟨hU, hF, hG, rg_w r_483437 (by decide) (by decide)⟩ dX11_keptIfAny_12
  · skip
    have r_483438 := lt_r (lo := 1) (nle h_483436) rc_0 ra0 (by decide)
    refine g_aload_n C 0 dX11_keptIfAny_4 rfl rfl ?_
    refine g_getR C K hLx hkx f_11_38 hb_483435 dX11_keptIfAny_5 ?_
    refine g_callVV C K (c_X5_keepNoted W9 hb_483435L hb_483435k   hU) hb_483435L hb_483435k (by decide) rfl v_11_260 rfl ⟨rfl, rfl⟩ ⟨Nat.le_of_ble_eq_true rfl, Nat.le_of_ble_eq_true rfl⟩ (Nat.le_of_ble_eq_true rfl) ⟨Nat.le_of_ble_eq_true rfl, Nat.le_of_ble_eq_true rfl⟩ dX11_keptIfAny_8 rfl (st := []) (fun I_483440 J_483441 h_483442 => ?_)
    obtain ⟨hUI_483440, hFI_483440, hGJ_483441⟩ := h_483442
    have hF_483443 := fq_tr hF hFI_483440 (by decide)
    have hG_483444 := fq_tr hG hGJ_483441 (by decide)
    refine g_iload_n C 1 dX11_keptIfAny_11 rfl rfl ?_
    exact g_zret (ty := .int) (r := a0) B K rfl (rfl) ⟨hUI_483440, hF_483443, hG_483444, rg_w r_483438 (by decide) (by decide)⟩ dX11_keptIfAny_12
