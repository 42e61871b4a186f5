theorem dX11_accept_0 : decode cX11_accept 0 = .ok (.aload_n 0, 1) := by decide +kernel
theorem dX11_accept_1 : decode cX11_accept 1 = .ok (.getfield 19, 3) := by decide +kernel
theorem dX11_accept_4 : decode cX11_accept 4 = .ok (.iload_n 1, 1) := by decide +kernel
theorem dX11_accept_5 : decode cX11_accept 5 = .ok (.invokevirtual 133, 3) := by decide +kernel
theorem dX11_accept_8 : decode cX11_accept 8 = .ok (.ifCond .ne 5, 3) := by decide +kernel
theorem dX11_accept_11 : decode cX11_accept 11 = .ok (.iconst (-1), 1) := by decide +kernel
theorem dX11_accept_12 : decode cX11_accept 12 = .ok (.ireturn, 1) := by decide +kernel
theorem dX11_accept_13 : decode cX11_accept 13 = .ok (.aload_n 0, 1) := by decide +kernel
theorem dX11_accept_14 : decode cX11_accept 14 = .ok (.getfield 38, 3) := by decide +kernel
theorem dX11_accept_17 : decode cX11_accept 17 = .ok (.aload_n 0, 1) := by decide +kernel
theorem dX11_accept_18 : decode cX11_accept 18 = .ok (.getfield 28, 3) := by decide +kernel
theorem dX11_accept_21 : decode cX11_accept 21 = .ok (.invokevirtual 225, 3) := by decide +kernel
theorem dX11_accept_24 : decode cX11_accept 24 = .ok (.aload_n 0, 1) := by decide +kernel
theorem dX11_accept_25 : decode cX11_accept 25 = .ok (.aload_n 0, 1) := by decide +kernel
theorem dX11_accept_26 : decode cX11_accept 26 = .ok (.getfield 28, 3) := by decide +kernel
theorem dX11_accept_29 : decode cX11_accept 29 = .ok (.iload_n 1, 1) := by decide +kernel
theorem dX11_accept_30 : decode cX11_accept 30 = .ok (.invokevirtual 244, 3) := by decide +kernel
theorem dX11_accept_33 : decode cX11_accept 33 = .ok (.invokevirtual 232, 3) := by decide +kernel
theorem dX11_accept_36 : decode cX11_accept 36 = .ok (.ireturn, 1) := by decide +kernel
theorem dX11_die_0 : decode cX11_die 0 = .ok (.aload_n 0, 1) := by decide +kernel
theorem dX11_die_1 : decode cX11_die 1 = .ok (.getfield 19, 3) := by decide +kernel
theorem dX11_die_4 : decode cX11_die 4 = .ok (.iload_n 1, 1) := by decide +kernel
theorem dX11_die_5 : decode cX11_die 5 = .ok (.invokevirtual 133, 3) := by decide +kernel
theorem dX11_die_8 : decode cX11_die 8 = .ok (.ifCond .ne 5, 3) := by decide +kernel
theorem dX11_die_11 : decode cX11_die 11 = .ok (.iconst (-1), 1) := by decide +kernel
theorem dX11_die_12 : decode cX11_die 12 = .ok (.ireturn, 1) := by decide +kernel
theorem dX11_die_13 : decode cX11_die 13 = .ok (.aload_n 0, 1) := by decide +kernel
theorem dX11_die_14 : decode cX11_die 14 = .ok (.getfield 38, 3) := by decide +kernel
theorem dX11_die_17 : decode cX11_die 17 = .ok (.aload_n 0, 1) := by decide +kernel
theorem dX11_die_18 : decode cX11_die 18 = .ok (.getfield 28, 3) := by decide +kernel
theorem dX11_die_21 : decode cX11_die 21 = .ok (.invokevirtual 225, 3) := by decide +kernel
theorem dX11_die_24 : decode cX11_die 24 = .ok (.aload_n 0, 1) := by decide +kernel
theorem dX11_die_25 : decode cX11_die 25 = .ok (.aload_n 0, 1) := by decide +kernel
theorem dX11_die_26 : decode cX11_die 26 = .ok (.getfield 28, 3) := by decide +kernel
theorem dX11_die_29 : decode cX11_die 29 = .ok (.iload_n 1, 1) := by decide +kernel
theorem dX11_die_30 : decode cX11_die 30 = .ok (.invokevirtual 247, 3) := by decide +kernel
theorem dX11_die_33 : decode cX11_die 33 = .ok (.invokevirtual 232, 3) := by decide +kernel
theorem dX11_die_36 : decode cX11_die 36 = .ok (.ireturn, 1) := by decide +kernel
theorem dX11_keptIfAny_0 : decode cX11_keptIfAny 0 = .ok (.iload_n 1, 1) := by decide +kernel
theorem dX11_keptIfAny_1 : decode cX11_keptIfAny 1 = .ok (.ifCond .le 10, 3) := by decide +kernel
theorem dX11_keptIfAny_4 : decode cX11_keptIfAny 4 = .ok (.aload_n 0, 1) := by decide +kernel
theorem dX11_keptIfAny_5 : decode cX11_keptIfAny 5 = .ok (.getfield 38, 3) := by decide +kernel
theorem dX11_keptIfAny_8 : decode cX11_keptIfAny 8 = .ok (.invokevirtual 260, 3) := by decide +kernel
theorem dX11_keptIfAny_11 : decode cX11_keptIfAny 11 = .ok (.iload_n 1, 1) := by decide +kernel
theorem dX11_keptIfAny_12 : decode cX11_keptIfAny 12 = .ok (.ireturn, 1) := by decide +kernel
theorem dX11_refuse_0 : decode cX11_refuse 0 = .ok (.aload_n 0, 1) := by decide +kernel
theorem dX11_refuse_1 : decode cX11_refuse 1 = .ok (.getfield 19, 3) := by decide +kernel
theorem dX11_refuse_4 : decode cX11_refuse 4 = .ok (.iload_n 1, 1) := by decide +kernel
theorem dX11_refuse_5 : decode cX11_refuse 5 = .ok (.invokevirtual 133, 3) := by decide +kernel
theorem dX11_refuse_8 : decode cX11_refuse 8 = .ok (.ifCond .ne 5, 3) := by decide +kernel
theorem dX11_refuse_11 : decode cX11_refuse 11 = .ok (.iconst (-1), 1) := by decide +kernel
theorem dX11_refuse_12 : decode cX11_refuse 12 = .ok (.ireturn, 1) := by decide +kernel
theorem dX11_refuse_13 : decode cX11_refuse 13 = .ok (.aload_n 0, 1) := by decide +kernel
theorem dX11_refuse_14 : decode cX11_refuse 14 = .ok (.getfield 38, 3) := by decide +kernel
theorem dX11_refuse_17 : decode cX11_refuse 17 = .ok (.aload_n 0, 1) := by decide +kernel
theorem dX11_refuse_18 : decode cX11_refuse 18 = .ok (.getfield 28, 3) := by decide +kernel
theorem dX11_refuse_21 : decode cX11_refuse 21 = .ok (.invokevirtual 225, 3) := by decide +kernel
theorem dX11_refuse_24 : decode cX11_refuse 24 = .ok (.aload_n 0, 1) := by decide +kernel
theorem dX11_refuse_25 : decode cX11_refuse 25 = .ok (.aload_n 0, 1) := by decide +kernel
theorem dX11_refuse_26 : decode cX11_refuse 26 = .ok (.getfield 28, 3) := by decide +kernel
theorem dX11_refuse_29 : decode cX11_refuse 29 = .ok (.iload_n 1, 1) := by decide +kernel
theorem dX11_refuse_30 : decode cX11_refuse 30 = .ok (.invokevirtual 241, 3) := by decide +kernel
theorem dX11_refuse_33 : decode cX11_refuse 33 = .ok (.invokevirtual 232, 3) := by decide +kernel
theorem dX11_refuse_36 : decode cX11_refuse 36 = .ok (.ireturn, 1) := by decide +kernel
theorem dX11_rise_0 : decode cX11_rise 0 = .ok (.aload_n 0, 1) := by decide +kernel
theorem dX11_rise_1 : decode cX11_rise 1 = .ok (.getfield 19, 3) := by decide +kernel
theorem dX11_rise_4 : decode cX11_rise 4 = .ok (.iload_n 1, 1) := by decide +kernel
theorem dX11_rise_5 : decode cX11_rise 5 = .ok (.invokevirtual 133, 3) := by decide +kernel
theorem dX11_rise_8 : decode cX11_rise 8 = .ok (.ifCond .ne 5, 3) := by decide +kernel
theorem dX11_rise_11 : decode cX11_rise 11 = .ok (.iconst (-1), 1) := by decide +kernel
theorem dX11_rise_12 : decode cX11_rise 12 = .ok (.ireturn, 1) := by decide +kernel
theorem dX11_rise_13 : decode cX11_rise 13 = .ok (.aload_n 0, 1) := by decide +kernel
theorem dX11_rise_14 : decode cX11_rise 14 = .ok (.getfield 38, 3) := by decide +kernel
theorem dX11_rise_17 : decode cX11_rise 17 = .ok (.aload_n 0, 1) := by decide +kernel
theorem dX11_rise_18 : decode cX11_rise 18 = .ok (.getfield 28, 3) := by decide +kernel
theorem dX11_rise_21 : decode cX11_rise 21 = .ok (.invokevirtual 225, 3) := by decide +kernel
theorem dX11_rise_24 : decode cX11_rise 24 = .ok (.aload_n 0, 1) := by decide +kernel
theorem dX11_rise_25 : decode cX11_rise 25 = .ok (.aload_n 0, 1) := by decide +kernel
theorem dX11_rise_26 : decode cX11_rise 26 = .ok (.getfield 28, 3) := by decide +kernel
theorem dX11_rise_29 : decode cX11_rise 29 = .ok (.iload_n 1, 1) := by decide +kernel
theorem dX11_rise_30 : decode cX11_rise 30 = .ok (.invokevirtual 238, 3) := by decide +kernel
theorem dX11_rise_33 : decode cX11_rise 33 = .ok (.invokevirtual 232, 3) := by decide +kernel
theorem dX11_rise_36 : decode cX11_rise 36 = .ok (.ireturn, 1) := by decide +kernel
theorem dX1_firstBehind_0 : decode cX1_firstBehind 0 = .ok (.iload_n 1, 1) := by decide +kernel
theorem dX1_firstBehind_1 : decode cX1_firstBehind 1 = .ok (.istore_n 3, 1) := by decide +kernel
theorem dX1_firstBehind_2 : decode cX1_firstBehind 2 = .ok (.iconst 1, 1) := by decide +kernel
theorem dX1_firstBehind_3 : decode cX1_firstBehind 3 = .ok (.istore 4, 2) := by decide +kernel
theorem dX1_firstBehind_5 : decode cX1_firstBehind 5 = .ok (.iload 4, 2) := by decide +kernel
theorem dX1_firstBehind_7 : decode cX1_firstBehind 7 = .ok (.aload_n 0, 1) := by decide +kernel
theorem dX1_firstBehind_8 : decode cX1_firstBehind 8 = .ok (.getfield 52, 3) := by decide +kernel
theorem dX1_firstBehind_11 : decode cX1_firstBehind 11 = .ok (.getfield 68, 3) := by decide +kernel
theorem dX1_firstBehind_14 : decode cX1_firstBehind 14 = .ok (.if_icmp .ge 40, 3) := by decide +kernel
theorem dX1_firstBehind_17 : decode cX1_firstBehind 17 = .ok (.iload_n 3, 1) := by decide +kernel
theorem dX1_firstBehind_18 : decode cX1_firstBehind 18 = .ok (.iconst 1, 1) := by decide +kernel
theorem dX1_firstBehind_19 : decode cX1_firstBehind 19 = .ok (.iadd, 1) := by decide +kernel
theorem dX1_firstBehind_20 : decode cX1_firstBehind 20 = .ok (.aload_n 0, 1) := by decide +kernel
theorem dX1_firstBehind_21 : decode cX1_firstBehind 21 = .ok (.getfield 52, 3) := by decide +kernel
theorem dX1_firstBehind_24 : decode cX1_firstBehind 24 = .ok (.getfield 68, 3) := by decide +kernel
theorem dX1_firstBehind_27 : decode cX1_firstBehind 27 = .ok (.if_icmp .ge 9, 3) := by decide +kernel
theorem dX1_firstBehind_30 : decode cX1_firstBehind 30 = .ok (.iload_n 3, 1) := by decide +kernel
theorem dX1_firstBehind_31 : decode cX1_firstBehind 31 = .ok (.iconst 1, 1) := by decide +kernel
theorem dX1_firstBehind_32 : decode cX1_firstBehind 32 = .ok (.iadd, 1) := by decide +kernel
theorem dX1_firstBehind_33 : decode cX1_firstBehind 33 = .ok (.goto 4, 3) := by decide +kernel
theorem dX1_firstBehind_36 : decode cX1_firstBehind 36 = .ok (.iconst 0, 1) := by decide +kernel
theorem dX1_firstBehind_37 : decode cX1_firstBehind 37 = .ok (.istore_n 3, 1) := by decide +kernel
theorem dX1_firstBehind_38 : decode cX1_firstBehind 38 = .ok (.iload_n 2, 1) := by decide +kernel
theorem dX1_firstBehind_39 : decode cX1_firstBehind 39 = .ok (.iload_n 3, 1) := by decide +kernel
theorem dX1_firstBehind_40 : decode cX1_firstBehind 40 = .ok (.ishr, 1) := by decide +kernel
theorem dX1_firstBehind_41 : decode cX1_firstBehind 41 = .ok (.iconst 1, 1) := by decide +kernel
theorem dX1_firstBehind_42 : decode cX1_firstBehind 42 = .ok (.iand, 1) := by decide +kernel
theorem dX1_firstBehind_43 : decode cX1_firstBehind 43 = .ok (.ifCond .eq 5, 3) := by decide +kernel
theorem dX1_firstBehind_46 : decode cX1_firstBehind 46 = .ok (.iload_n 3, 1) := by decide +kernel
theorem dX1_firstBehind_47 : decode cX1_firstBehind 47 = .ok (.ireturn, 1) := by decide +kernel
theorem dX1_firstBehind_48 : decode cX1_firstBehind 48 = .ok (.iinc 4 1, 3) := by decide +kernel
theorem dX1_firstBehind_51 : decode cX1_firstBehind 51 = .ok (.goto (-46), 3) := by decide +kernel
theorem dX1_firstBehind_54 : decode cX1_firstBehind 54 = .ok (.iconst (-1), 1) := by decide +kernel
theorem dX1_firstBehind_55 : decode cX1_firstBehind 55 = .ok (.ireturn, 1) := by decide +kernel
theorem dX1_heirOf_0 : decode cX1_heirOf 0 = .ok (.aload_n 0, 1) := by decide +kernel
theorem dX1_heirOf_1 : decode cX1_heirOf 1 = .ok (.getfield 52, 3) := by decide +kernel
theorem dX1_heirOf_4 : decode cX1_heirOf 4 = .ok (.invokevirtual 62, 3) := by decide +kernel
theorem dX1_heirOf_7 : decode cX1_heirOf 7 = .ok (.aload_n 0, 1) := by decide +kernel
theorem dX1_heirOf_8 : decode cX1_heirOf 8 = .ok (.getfield 30, 3) := by decide +kernel
theorem dX1_heirOf_11 : decode cX1_heirOf 11 = .ok (.iconst (-1), 1) := by decide +kernel
theorem dX1_heirOf_12 : decode cX1_heirOf 12 = .ok (.ixor, 1) := by decide +kernel
theorem dX1_heirOf_13 : decode cX1_heirOf 13 = .ok (.iand, 1) := by decide +kernel
theorem dX1_heirOf_14 : decode cX1_heirOf 14 = .ok (.iload_n 2, 1) := by decide +kernel
theorem dX1_heirOf_15 : decode cX1_heirOf 15 = .ok (.iconst (-1), 1) := by decide +kernel
theorem dX1_heirOf_16 : decode cX1_heirOf 16 = .ok (.ixor, 1) := by decide +kernel
theorem dX1_heirOf_17 : decode cX1_heirOf 17 = .ok (.iand, 1) := by decide +kernel
theorem dX1_heirOf_18 : decode cX1_heirOf 18 = .ok (.iconst 1, 1) := by decide +kernel
theorem dX1_heirOf_19 : decode cX1_heirOf 19 = .ok (.iload_n 1, 1) := by decide +kernel
theorem dX1_heirOf_20 : decode cX1_heirOf 20 = .ok (.ishl, 1) := by decide +kernel
theorem dX1_heirOf_21 : decode cX1_heirOf 21 = .ok (.iconst (-1), 1) := by decide +kernel
theorem dX1_heirOf_22 : decode cX1_heirOf 22 = .ok (.ixor, 1) := by decide +kernel
theorem dX1_heirOf_23 : decode cX1_heirOf 23 = .ok (.iand, 1) := by decide +kernel
theorem dX1_heirOf_24 : decode cX1_heirOf 24 = .ok (.istore_n 3, 1) := by decide +kernel
theorem dX1_heirOf_25 : decode cX1_heirOf 25 = .ok (.aload_n 0, 1) := by decide +kernel
theorem dX1_heirOf_26 : decode cX1_heirOf 26 = .ok (.getfield 52, 3) := by decide +kernel
theorem dX1_heirOf_29 : decode cX1_heirOf 29 = .ok (.getfield 78, 3) := by decide +kernel
theorem dX1_heirOf_32 : decode cX1_heirOf 32 = .ok (.iconst 2, 1) := by decide +kernel
theorem dX1_heirOf_33 : decode cX1_heirOf 33 = .ok (.if_icmp .ne 9, 3) := by decide +kernel
theorem dX1_heirOf_36 : decode cX1_heirOf 36 = .ok (.aload_n 0, 1) := by decide +kernel
theorem dX1_heirOf_37 : decode cX1_heirOf 37 = .ok (.iload_n 3, 1) := by decide +kernel
theorem dX1_heirOf_38 : decode cX1_heirOf 38 = .ok (.invokevirtual 81, 3) := by decide +kernel
theorem dX1_heirOf_41 : decode cX1_heirOf 41 = .ok (.ireturn, 1) := by decide +kernel
theorem dX1_heirOf_42 : decode cX1_heirOf 42 = .ok (.aload_n 0, 1) := by decide +kernel
theorem dX1_heirOf_43 : decode cX1_heirOf 43 = .ok (.getfield 52, 3) := by decide +kernel
theorem dX1_heirOf_46 : decode cX1_heirOf 46 = .ok (.getfield 78, 3) := by decide +kernel
theorem dX1_heirOf_49 : decode cX1_heirOf 49 = .ok (.iconst 1, 1) := by decide +kernel
theorem dX1_heirOf_50 : decode cX1_heirOf 50 = .ok (.if_icmp .ne 16, 3) := by decide +kernel
theorem dX1_heirOf_53 : decode cX1_heirOf 53 = .ok (.iload_n 3, 1) := by decide +kernel
theorem dX1_heirOf_54 : decode cX1_heirOf 54 = .ok (.aload_n 0, 1) := by decide +kernel
theorem dX1_heirOf_55 : decode cX1_heirOf 55 = .ok (.getfield 52, 3) := by decide +kernel
theorem dX1_heirOf_58 : decode cX1_heirOf 58 = .ok (.iload_n 1, 1) := by decide +kernel
theorem dX1_heirOf_59 : decode cX1_heirOf 59 = .ok (.invokevirtual 85, 3) := by decide +kernel
theorem dX1_heirOf_62 : decode cX1_heirOf 62 = .ok (.iand, 1) := by decide +kernel
theorem dX1_heirOf_63 : decode cX1_heirOf 63 = .ok (.goto 4, 3) := by decide +kernel
theorem dX1_heirOf_66 : decode cX1_heirOf 66 = .ok (.iconst 0, 1) := by decide +kernel
theorem dX1_heirOf_67 : decode cX1_heirOf 67 = .ok (.istore 4, 2) := by decide +kernel
theorem dX1_heirOf_69 : decode cX1_heirOf 69 = .ok (.aload_n 0, 1) := by decide +kernel
theorem dX1_heirOf_70 : decode cX1_heirOf 70 = .ok (.iload_n 1, 1) := by decide +kernel
theorem dX1_heirOf_71 : decode cX1_heirOf 71 = .ok (.iload 4, 2) := by decide +kernel
theorem dX1_heirOf_73 : decode cX1_heirOf 73 = .ok (.ifCond .eq 8, 3) := by decide +kernel
theorem dX1_heirOf_76 : decode cX1_heirOf 76 = .ok (.iload 4, 2) := by decide +kernel
theorem dX1_heirOf_78 : decode cX1_heirOf 78 = .ok (.goto 4, 3) := by decide +kernel
theorem dX1_heirOf_81 : decode cX1_heirOf 81 = .ok (.iload_n 3, 1) := by decide +kernel
theorem dX1_heirOf_82 : decode cX1_heirOf 82 = .ok (.invokevirtual 88, 3) := by decide +kernel
theorem dX1_heirOf_85 : decode cX1_heirOf 85 = .ok (.ireturn, 1) := by decide +kernel
theorem dX1_leastFed_0 : decode cX1_leastFed 0 = .ok (.iconst (-1), 1) := by decide +kernel
theorem dX1_leastFed_1 : decode cX1_leastFed 1 = .ok (.istore_n 2, 1) := by decide +kernel
theorem dX1_leastFed_2 : decode cX1_leastFed 2 = .ok (.iconst 0, 1) := by decide +kernel
theorem dX1_leastFed_3 : decode cX1_leastFed 3 = .ok (.istore_n 3, 1) := by decide +kernel
theorem dX1_leastFed_4 : decode cX1_leastFed 4 = .ok (.iload_n 3, 1) := by decide +kernel
theorem dX1_leastFed_5 : decode cX1_leastFed 5 = .ok (.aload_n 0, 1) := by decide +kernel
theorem dX1_leastFed_6 : decode cX1_leastFed 6 = .ok (.getfield 52, 3) := by decide +kernel
theorem dX1_leastFed_9 : decode cX1_leastFed 9 = .ok (.getfield 68, 3) := by decide +kernel
theorem dX1_leastFed_12 : decode cX1_leastFed 12 = .ok (.if_icmp .ge 39, 3) := by decide +kernel
theorem dX1_leastFed_15 : decode cX1_leastFed 15 = .ok (.iload_n 1, 1) := by decide +kernel
theorem dX1_leastFed_16 : decode cX1_leastFed 16 = .ok (.iload_n 3, 1) := by decide +kernel
theorem dX1_leastFed_17 : decode cX1_leastFed 17 = .ok (.ishr, 1) := by decide +kernel
theorem dX1_leastFed_18 : decode cX1_leastFed 18 = .ok (.iconst 1, 1) := by decide +kernel
theorem dX1_leastFed_19 : decode cX1_leastFed 19 = .ok (.iand, 1) := by decide +kernel
theorem dX1_leastFed_20 : decode cX1_leastFed 20 = .ok (.ifCond .eq 25, 3) := by decide +kernel
theorem dX1_leastFed_23 : decode cX1_leastFed 23 = .ok (.iload_n 2, 1) := by decide +kernel
theorem dX1_leastFed_24 : decode cX1_leastFed 24 = .ok (.iconst (-1), 1) := by decide +kernel
theorem dX1_leastFed_25 : decode cX1_leastFed 25 = .ok (.if_icmp .eq 18, 3) := by decide +kernel
theorem dX1_leastFed_28 : decode cX1_leastFed 28 = .ok (.aload_n 0, 1) := by decide +kernel
theorem dX1_leastFed_29 : decode cX1_leastFed 29 = .ok (.getfield 21, 3) := by decide +kernel
theorem dX1_leastFed_32 : decode cX1_leastFed 32 = .ok (.iload_n 3, 1) := by decide +kernel
theorem dX1_leastFed_33 : decode cX1_leastFed 33 = .ok (.iaload, 1) := by decide +kernel
theorem dX1_leastFed_34 : decode cX1_leastFed 34 = .ok (.aload_n 0, 1) := by decide +kernel
theorem dX1_leastFed_35 : decode cX1_leastFed 35 = .ok (.getfield 21, 3) := by decide +kernel
theorem dX1_leastFed_38 : decode cX1_leastFed 38 = .ok (.iload_n 2, 1) := by decide +kernel
theorem dX1_leastFed_39 : decode cX1_leastFed 39 = .ok (.iaload, 1) := by decide +kernel
theorem dX1_leastFed_40 : decode cX1_leastFed 40 = .ok (.if_icmp .ge 5, 3) := by decide +kernel
theorem dX1_leastFed_43 : decode cX1_leastFed 43 = .ok (.iload_n 3, 1) := by decide +kernel
theorem dX1_leastFed_44 : decode cX1_leastFed 44 = .ok (.istore_n 2, 1) := by decide +kernel
theorem dX1_leastFed_45 : decode cX1_leastFed 45 = .ok (.iinc 3 1, 3) := by decide +kernel
theorem dX1_leastFed_48 : decode cX1_leastFed 48 = .ok (.goto (-44), 3) := by decide +kernel
theorem dX1_leastFed_51 : decode cX1_leastFed 51 = .ok (.iload_n 2, 1) := by decide +kernel
theorem dX1_leastFed_52 : decode cX1_leastFed 52 = .ok (.ireturn, 1) := by decide +kernel
theorem dX1_passOn_0 : decode cX1_passOn 0 = .ok (.aload_n 0, 1) := by decide +kernel
theorem dX1_passOn_1 : decode cX1_passOn 1 = .ok (.iload_n 1, 1) := by decide +kernel
theorem dX1_passOn_2 : decode cX1_passOn 2 = .ok (.aload_n 0, 1) := by decide +kernel
theorem dX1_passOn_3 : decode cX1_passOn 3 = .ok (.getfield 34, 3) := by decide +kernel
theorem dX1_passOn_6 : decode cX1_passOn 6 = .ok (.invokevirtual 91, 3) := by decide +kernel
theorem dX1_passOn_9 : decode cX1_passOn 9 = .ok (.istore_n 2, 1) := by decide +kernel
theorem dX1_passOn_10 : decode cX1_passOn 10 = .ok (.aload_n 0, 1) := by decide +kernel
theorem dX1_passOn_11 : decode cX1_passOn 11 = .ok (.getfield 52, 3) := by decide +kernel
theorem dX1_passOn_14 : decode cX1_passOn 14 = .ok (.getfield 94, 3) := by decide +kernel
theorem dX1_passOn_17 : decode cX1_passOn 17 = .ok (.istore_n 3, 1) := by decide +kernel
theorem dX1_passOn_18 : decode cX1_passOn 18 = .ok (.iconst 0, 1) := by decide +kernel
theorem dX1_passOn_19 : decode cX1_passOn 19 = .ok (.istore 4, 2) := by decide +kernel
theorem dX1_passOn_21 : decode cX1_passOn 21 = .ok (.iload 4, 2) := by decide +kernel
theorem dX1_passOn_23 : decode cX1_passOn 23 = .ok (.aload_n 0, 1) := by decide +kernel
theorem dX1_passOn_24 : decode cX1_passOn 24 = .ok (.getfield 52, 3) := by decide +kernel
theorem dX1_passOn_27 : decode cX1_passOn 27 = .ok (.getfield 97, 3) := by decide +kernel
theorem dX1_passOn_30 : decode cX1_passOn 30 = .ok (.if_icmp .ge 87, 3) := by decide +kernel
theorem dX1_passOn_33 : decode cX1_passOn 33 = .ok (.aload_n 0, 1) := by decide +kernel
theorem dX1_passOn_34 : decode cX1_passOn 34 = .ok (.iload_n 1, 1) := by decide +kernel
theorem dX1_passOn_35 : decode cX1_passOn 35 = .ok (.iload 4, 2) := by decide +kernel
theorem dX1_passOn_37 : decode cX1_passOn 37 = .ok (.invokevirtual 71, 3) := by decide +kernel
theorem dX1_passOn_40 : decode cX1_passOn 40 = .ok (.istore 5, 2) := by decide +kernel
theorem dX1_passOn_42 : decode cX1_passOn 42 = .ok (.iload 5, 2) := by decide +kernel
theorem dX1_passOn_44 : decode cX1_passOn 44 = .ok (.iload_n 3, 1) := by decide +kernel
theorem dX1_passOn_45 : decode cX1_passOn 45 = .ok (.invokestatic 100, 3) := by decide +kernel
theorem dX1_passOn_48 : decode cX1_passOn 48 = .ok (.istore 6, 2) := by decide +kernel
theorem dX1_passOn_50 : decode cX1_passOn 50 = .ok (.iload_n 3, 1) := by decide +kernel
theorem dX1_passOn_51 : decode cX1_passOn 51 = .ok (.iload 6, 2) := by decide +kernel
theorem dX1_passOn_53 : decode cX1_passOn 53 = .ok (.isub, 1) := by decide +kernel
theorem dX1_passOn_54 : decode cX1_passOn 54 = .ok (.istore_n 3, 1) := by decide +kernel
theorem dX1_passOn_55 : decode cX1_passOn 55 = .ok (.aload_n 0, 1) := by decide +kernel
theorem dX1_passOn_56 : decode cX1_passOn 56 = .ok (.dup, 1) := by decide +kernel
theorem dX1_passOn_57 : decode cX1_passOn 57 = .ok (.getfield 40, 3) := by decide +kernel
theorem dX1_passOn_60 : decode cX1_passOn 60 = .ok (.iload 6, 2) := by decide +kernel
theorem dX1_passOn_62 : decode cX1_passOn 62 = .ok (.iadd, 1) := by decide +kernel
theorem dX1_passOn_63 : decode cX1_passOn 63 = .ok (.putfield 40, 3) := by decide +kernel
theorem dX1_passOn_66 : decode cX1_passOn 66 = .ok (.aload_n 0, 1) := by decide +kernel
theorem dX1_passOn_67 : decode cX1_passOn 67 = .ok (.iload_n 1, 1) := by decide +kernel
theorem dX1_passOn_68 : decode cX1_passOn 68 = .ok (.iload 4, 2) := by decide +kernel
theorem dX1_passOn_70 : decode cX1_passOn 70 = .ok (.iload 5, 2) := by decide +kernel
theorem dX1_passOn_72 : decode cX1_passOn 72 = .ok (.ineg, 1) := by decide +kernel
theorem dX1_passOn_73 : decode cX1_passOn 73 = .ok (.invokevirtual 105, 3) := by decide +kernel
theorem dX1_passOn_76 : decode cX1_passOn 76 = .ok (.iload_n 2, 1) := by decide +kernel
theorem dX1_passOn_77 : decode cX1_passOn 77 = .ok (.iconst (-1), 1) := by decide +kernel
theorem dX1_passOn_78 : decode cX1_passOn 78 = .ok (.if_icmp .ne 21, 3) := by decide +kernel
theorem dX1_passOn_81 : decode cX1_passOn 81 = .ok (.aload_n 0, 1) := by decide +kernel
theorem dX1_passOn_82 : decode cX1_passOn 82 = .ok (.getfield 9, 3) := by decide +kernel
theorem dX1_passOn_85 : decode cX1_passOn 85 = .ok (.iload 4, 2) := by decide +kernel
theorem dX1_passOn_87 : decode cX1_passOn 87 = .ok (.dup2, 1) := by decide +kernel
theorem dX1_passOn_88 : decode cX1_passOn 88 = .ok (.iaload, 1) := by decide +kernel
theorem dX1_passOn_89 : decode cX1_passOn 89 = .ok (.iload 5, 2) := by decide +kernel
theorem dX1_passOn_91 : decode cX1_passOn 91 = .ok (.iload 6, 2) := by decide +kernel
theorem dX1_passOn_93 : decode cX1_passOn 93 = .ok (.isub, 1) := by decide +kernel
theorem dX1_passOn_94 : decode cX1_passOn 94 = .ok (.iadd, 1) := by decide +kernel
theorem dX1_passOn_95 : decode cX1_passOn 95 = .ok (.iastore, 1) := by decide +kernel
theorem dX1_passOn_96 : decode cX1_passOn 96 = .ok (.goto 15, 3) := by decide +kernel
theorem dX1_passOn_99 : decode cX1_passOn 99 = .ok (.aload_n 0, 1) := by decide +kernel
theorem dX1_passOn_100 : decode cX1_passOn 100 = .ok (.iload_n 2, 1) := by decide +kernel
theorem dX1_passOn_101 : decode cX1_passOn 101 = .ok (.iload 4, 2) := by decide +kernel
theorem dX1_passOn_103 : decode cX1_passOn 103 = .ok (.iload 5, 2) := by decide +kernel
theorem dX1_passOn_105 : decode cX1_passOn 105 = .ok (.iload 6, 2) := by decide +kernel
theorem dX1_passOn_107 : decode cX1_passOn 107 = .ok (.isub, 1) := by decide +kernel
theorem dX1_passOn_108 : decode cX1_passOn 108 = .ok (.invokevirtual 105, 3) := by decide +kernel
theorem dX1_passOn_111 : decode cX1_passOn 111 = .ok (.iinc 4 1, 3) := by decide +kernel
theorem dX1_passOn_114 : decode cX1_passOn 114 = .ok (.goto (-93), 3) := by decide +kernel
theorem dX1_passOn_117 : decode cX1_passOn 117 = .ok (.aload_n 0, 1) := by decide +kernel
theorem dX1_passOn_118 : decode cX1_passOn 118 = .ok (.dup, 1) := by decide +kernel
theorem dX1_passOn_119 : decode cX1_passOn 119 = .ok (.getfield 46, 3) := by decide +kernel
theorem dX1_passOn_122 : decode cX1_passOn 122 = .ok (.iconst 1, 1) := by decide +kernel
theorem dX1_passOn_123 : decode cX1_passOn 123 = .ok (.iadd, 1) := by decide +kernel
theorem dX1_passOn_124 : decode cX1_passOn 124 = .ok (.putfield 46, 3) := by decide +kernel
theorem dX1_passOn_127 : decode cX1_passOn 127 = .ok (.return_, 1) := by decide +kernel
theorem dX1_tryToAccept_0 : decode cX1_tryToAccept 0 = .ok (.aload_n 0, 1) := by decide +kernel
theorem dX1_tryToAccept_1 : decode cX1_tryToAccept 1 = .ok (.iload_n 1, 1) := by decide +kernel
theorem dX1_tryToAccept_2 : decode cX1_tryToAccept 2 = .ok (.invokevirtual 115, 3) := by decide +kernel
theorem dX1_tryToAccept_5 : decode cX1_tryToAccept 5 = .ok (.ifCond .ne 5, 3) := by decide +kernel
theorem dX1_tryToAccept_8 : decode cX1_tryToAccept 8 = .ok (.iconst 1, 1) := by decide +kernel
theorem dX1_tryToAccept_9 : decode cX1_tryToAccept 9 = .ok (.ireturn, 1) := by decide +kernel
theorem dX1_tryToAccept_10 : decode cX1_tryToAccept 10 = .ok (.aload_n 0, 1) := by decide +kernel
theorem dX1_tryToAccept_11 : decode cX1_tryToAccept 11 = .ok (.getfield 34, 3) := by decide +kernel
theorem dX1_tryToAccept_14 : decode cX1_tryToAccept 14 = .ok (.iload_n 1, 1) := by decide +kernel
theorem dX1_tryToAccept_15 : decode cX1_tryToAccept 15 = .ok (.ishr, 1) := by decide +kernel
theorem dX1_tryToAccept_16 : decode cX1_tryToAccept 16 = .ok (.iconst 1, 1) := by decide +kernel
theorem dX1_tryToAccept_17 : decode cX1_tryToAccept 17 = .ok (.iand, 1) := by decide +kernel
theorem dX1_tryToAccept_18 : decode cX1_tryToAccept 18 = .ok (.ifCond .ne 5, 3) := by decide +kernel
theorem dX1_tryToAccept_21 : decode cX1_tryToAccept 21 = .ok (.iconst 2, 1) := by decide +kernel
theorem dX1_tryToAccept_22 : decode cX1_tryToAccept 22 = .ok (.ireturn, 1) := by decide +kernel
theorem dX1_tryToAccept_23 : decode cX1_tryToAccept 23 = .ok (.aload_n 0, 1) := by decide +kernel
theorem dX1_tryToAccept_24 : decode cX1_tryToAccept 24 = .ok (.dup, 1) := by decide +kernel
theorem dX1_tryToAccept_25 : decode cX1_tryToAccept 25 = .ok (.getfield 34, 3) := by decide +kernel
theorem dX1_tryToAccept_28 : decode cX1_tryToAccept 28 = .ok (.iconst 1, 1) := by decide +kernel
theorem dX1_tryToAccept_29 : decode cX1_tryToAccept 29 = .ok (.iload_n 1, 1) := by decide +kernel
theorem dX1_tryToAccept_30 : decode cX1_tryToAccept 30 = .ok (.ishl, 1) := by decide +kernel
theorem dX1_tryToAccept_31 : decode cX1_tryToAccept 31 = .ok (.iconst (-1), 1) := by decide +kernel
theorem dX1_tryToAccept_32 : decode cX1_tryToAccept 32 = .ok (.ixor, 1) := by decide +kernel
theorem dX1_tryToAccept_33 : decode cX1_tryToAccept 33 = .ok (.iand, 1) := by decide +kernel
theorem dX1_tryToAccept_34 : decode cX1_tryToAccept 34 = .ok (.putfield 34, 3) := by decide +kernel
theorem dX1_tryToAccept_37 : decode cX1_tryToAccept 37 = .ok (.iconst 0, 1) := by decide +kernel
theorem dX1_tryToAccept_38 : decode cX1_tryToAccept 38 = .ok (.ireturn, 1) := by decide +kernel
theorem dX1_tryToDie_0 : decode cX1_tryToDie 0 = .ok (.aload_n 0, 1) := by decide +kernel
theorem dX1_tryToDie_1 : decode cX1_tryToDie 1 = .ok (.iload_n 1, 1) := by decide +kernel
theorem dX1_tryToDie_2 : decode cX1_tryToDie 2 = .ok (.invokevirtual 115, 3) := by decide +kernel
theorem dX1_tryToDie_5 : decode cX1_tryToDie 5 = .ok (.ifCond .ne 5, 3) := by decide +kernel
theorem dX1_tryToDie_8 : decode cX1_tryToDie 8 = .ok (.iconst 1, 1) := by decide +kernel
theorem dX1_tryToDie_9 : decode cX1_tryToDie 9 = .ok (.ireturn, 1) := by decide +kernel
theorem dX1_tryToDie_10 : decode cX1_tryToDie 10 = .ok (.aload_n 0, 1) := by decide +kernel
theorem dX1_tryToDie_11 : decode cX1_tryToDie 11 = .ok (.dup, 1) := by decide +kernel
theorem dX1_tryToDie_12 : decode cX1_tryToDie 12 = .ok (.getfield 30, 3) := by decide +kernel
theorem dX1_tryToDie_15 : decode cX1_tryToDie 15 = .ok (.iconst 1, 1) := by decide +kernel
theorem dX1_tryToDie_16 : decode cX1_tryToDie 16 = .ok (.iload_n 1, 1) := by decide +kernel
theorem dX1_tryToDie_17 : decode cX1_tryToDie 17 = .ok (.ishl, 1) := by decide +kernel
theorem dX1_tryToDie_18 : decode cX1_tryToDie 18 = .ok (.ior, 1) := by decide +kernel
theorem dX1_tryToDie_19 : decode cX1_tryToDie 19 = .ok (.putfield 30, 3) := by decide +kernel
theorem dX1_tryToDie_22 : decode cX1_tryToDie 22 = .ok (.aload_n 0, 1) := by decide +kernel
theorem dX1_tryToDie_23 : decode cX1_tryToDie 23 = .ok (.getfield 18, 3) := by decide +kernel
theorem dX1_tryToDie_26 : decode cX1_tryToDie 26 = .ok (.iload_n 1, 1) := by decide +kernel
theorem dX1_tryToDie_27 : decode cX1_tryToDie 27 = .ok (.iaload, 1) := by decide +kernel
theorem dX1_tryToDie_28 : decode cX1_tryToDie 28 = .ok (.ifCond .le 8, 3) := by decide +kernel
theorem dX1_tryToDie_31 : decode cX1_tryToDie 31 = .ok (.aload_n 0, 1) := by decide +kernel
theorem dX1_tryToDie_32 : decode cX1_tryToDie 32 = .ok (.iload_n 1, 1) := by decide +kernel
theorem dX1_tryToDie_33 : decode cX1_tryToDie 33 = .ok (.invokevirtual 119, 3) := by decide +kernel
theorem dX1_tryToDie_36 : decode cX1_tryToDie 36 = .ok (.iconst 0, 1) := by decide +kernel
theorem dX1_tryToDie_37 : decode cX1_tryToDie 37 = .ok (.ireturn, 1) := by decide +kernel
theorem dX1_tryToRefuse_0 : decode cX1_tryToRefuse 0 = .ok (.aload_n 0, 1) := by decide +kernel
theorem dX1_tryToRefuse_1 : decode cX1_tryToRefuse 1 = .ok (.iload_n 1, 1) := by decide +kernel
theorem dX1_tryToRefuse_2 : decode cX1_tryToRefuse 2 = .ok (.invokevirtual 115, 3) := by decide +kernel
theorem dX1_tryToRefuse_5 : decode cX1_tryToRefuse 5 = .ok (.ifCond .ne 5, 3) := by decide +kernel
theorem dX1_tryToRefuse_8 : decode cX1_tryToRefuse 8 = .ok (.iconst 1, 1) := by decide +kernel
theorem dX1_tryToRefuse_9 : decode cX1_tryToRefuse 9 = .ok (.ireturn, 1) := by decide +kernel
theorem dX1_tryToRefuse_10 : decode cX1_tryToRefuse 10 = .ok (.aload_n 0, 1) := by decide +kernel
theorem dX1_tryToRefuse_11 : decode cX1_tryToRefuse 11 = .ok (.getfield 34, 3) := by decide +kernel
theorem dX1_tryToRefuse_14 : decode cX1_tryToRefuse 14 = .ok (.iload_n 1, 1) := by decide +kernel
theorem dX1_tryToRefuse_15 : decode cX1_tryToRefuse 15 = .ok (.ishr, 1) := by decide +kernel
theorem dX1_tryToRefuse_16 : decode cX1_tryToRefuse 16 = .ok (.iconst 1, 1) := by decide +kernel
theorem dX1_tryToRefuse_17 : decode cX1_tryToRefuse 17 = .ok (.iand, 1) := by decide +kernel
theorem dX1_tryToRefuse_18 : decode cX1_tryToRefuse 18 = .ok (.ifCond .eq 5, 3) := by decide +kernel
theorem dX1_tryToRefuse_21 : decode cX1_tryToRefuse 21 = .ok (.iconst 2, 1) := by decide +kernel
theorem dX1_tryToRefuse_22 : decode cX1_tryToRefuse 22 = .ok (.ireturn, 1) := by decide +kernel
theorem dX1_tryToRefuse_23 : decode cX1_tryToRefuse 23 = .ok (.aload_n 0, 1) := by decide +kernel
theorem dX1_tryToRefuse_24 : decode cX1_tryToRefuse 24 = .ok (.dup, 1) := by decide +kernel
theorem dX1_tryToRefuse_25 : decode cX1_tryToRefuse 25 = .ok (.getfield 34, 3) := by decide +kernel
theorem dX1_tryToRefuse_28 : decode cX1_tryToRefuse 28 = .ok (.iconst 1, 1) := by decide +kernel
theorem dX1_tryToRefuse_29 : decode cX1_tryToRefuse 29 = .ok (.iload_n 1, 1) := by decide +kernel
theorem dX1_tryToRefuse_30 : decode cX1_tryToRefuse 30 = .ok (.ishl, 1) := by decide +kernel
theorem dX1_tryToRefuse_31 : decode cX1_tryToRefuse 31 = .ok (.ior, 1) := by decide +kernel
theorem dX1_tryToRefuse_32 : decode cX1_tryToRefuse 32 = .ok (.putfield 34, 3) := by decide +kernel
theorem dX1_tryToRefuse_35 : decode cX1_tryToRefuse 35 = .ok (.iconst 0, 1) := by decide +kernel
theorem dX1_tryToRefuse_36 : decode cX1_tryToRefuse 36 = .ok (.ireturn, 1) := by decide +kernel
theorem dX1_tryToRise_0 : decode cX1_tryToRise 0 = .ok (.aload_n 0, 1) := by decide +kernel
theorem dX1_tryToRise_1 : decode cX1_tryToRise 1 = .ok (.iload_n 1, 1) := by decide +kernel
theorem dX1_tryToRise_2 : decode cX1_tryToRise 2 = .ok (.invokevirtual 115, 3) := by decide +kernel
theorem dX1_tryToRise_5 : decode cX1_tryToRise 5 = .ok (.ifCond .ne 5, 3) := by decide +kernel
theorem dX1_tryToRise_8 : decode cX1_tryToRise 8 = .ok (.iconst 1, 1) := by decide +kernel
theorem dX1_tryToRise_9 : decode cX1_tryToRise 9 = .ok (.ireturn, 1) := by decide +kernel
theorem dX1_tryToRise_10 : decode cX1_tryToRise 10 = .ok (.aload_n 0, 1) := by decide +kernel
theorem dX1_tryToRise_11 : decode cX1_tryToRise 11 = .ok (.getfield 18, 3) := by decide +kernel
theorem dX1_tryToRise_14 : decode cX1_tryToRise 14 = .ok (.iload_n 1, 1) := by decide +kernel
theorem dX1_tryToRise_15 : decode cX1_tryToRise 15 = .ok (.iaload, 1) := by decide +kernel
theorem dX1_tryToRise_16 : decode cX1_tryToRise 16 = .ok (.ifCond .ne 5, 3) := by decide +kernel
theorem dX1_tryToRise_19 : decode cX1_tryToRise 19 = .ok (.iconst 2, 1) := by decide +kernel
theorem dX1_tryToRise_20 : decode cX1_tryToRise 20 = .ok (.ireturn, 1) := by decide +kernel
theorem dX1_tryToRise_21 : decode cX1_tryToRise 21 = .ok (.aload_n 0, 1) := by decide +kernel
theorem dX1_tryToRise_22 : decode cX1_tryToRise 22 = .ok (.iload_n 1, 1) := by decide +kernel
theorem dX1_tryToRise_23 : decode cX1_tryToRise 23 = .ok (.invokevirtual 119, 3) := by decide +kernel
theorem dX1_tryToRise_26 : decode cX1_tryToRise 26 = .ok (.iconst 0, 1) := by decide +kernel
theorem dX1_tryToRise_27 : decode cX1_tryToRise 27 = .ok (.ireturn, 1) := by decide +kernel
theorem dX8_childrenOf_0 : decode cX8_childrenOf 0 = .ok (.iconst 0, 1) := by decide +kernel
theorem dX8_childrenOf_1 : decode cX8_childrenOf 1 = .ok (.istore_n 2, 1) := by decide +kernel
theorem dX8_childrenOf_2 : decode cX8_childrenOf 2 = .ok (.iconst 0, 1) := by decide +kernel
theorem dX8_childrenOf_3 : decode cX8_childrenOf 3 = .ok (.istore_n 3, 1) := by decide +kernel
theorem dX8_childrenOf_4 : decode cX8_childrenOf 4 = .ok (.iload_n 3, 1) := by decide +kernel
theorem dX8_childrenOf_5 : decode cX8_childrenOf 5 = .ok (.aload_n 0, 1) := by decide +kernel
theorem dX8_childrenOf_6 : decode cX8_childrenOf 6 = .ok (.getfield 28, 3) := by decide +kernel
theorem dX8_childrenOf_9 : decode cX8_childrenOf 9 = .ok (.if_icmp .ge 25, 3) := by decide +kernel
theorem dX8_childrenOf_12 : decode cX8_childrenOf 12 = .ok (.aload_n 0, 1) := by decide +kernel
theorem dX8_childrenOf_13 : decode cX8_childrenOf 13 = .ok (.getfield 19, 3) := by decide +kernel
theorem dX8_childrenOf_16 : decode cX8_childrenOf 16 = .ok (.iload_n 3, 1) := by decide +kernel
theorem dX8_childrenOf_17 : decode cX8_childrenOf 17 = .ok (.iaload, 1) := by decide +kernel
theorem dX8_childrenOf_18 : decode cX8_childrenOf 18 = .ok (.iload_n 1, 1) := by decide +kernel
theorem dX8_childrenOf_19 : decode cX8_childrenOf 19 = .ok (.if_icmp .ne 9, 3) := by decide +kernel
theorem dX8_childrenOf_22 : decode cX8_childrenOf 22 = .ok (.iload_n 2, 1) := by decide +kernel
theorem dX8_childrenOf_23 : decode cX8_childrenOf 23 = .ok (.iconst 1, 1) := by decide +kernel
theorem dX8_childrenOf_24 : decode cX8_childrenOf 24 = .ok (.iload_n 3, 1) := by decide +kernel
theorem dX8_childrenOf_25 : decode cX8_childrenOf 25 = .ok (.ishl, 1) := by decide +kernel
theorem dX8_childrenOf_26 : decode cX8_childrenOf 26 = .ok (.ior, 1) := by decide +kernel
theorem dX8_childrenOf_27 : decode cX8_childrenOf 27 = .ok (.istore_n 2, 1) := by decide +kernel
theorem dX8_childrenOf_28 : decode cX8_childrenOf 28 = .ok (.iinc 3 1, 3) := by decide +kernel
theorem dX8_childrenOf_31 : decode cX8_childrenOf 31 = .ok (.goto (-27), 3) := by decide +kernel
theorem dX8_childrenOf_34 : decode cX8_childrenOf 34 = .ok (.iload_n 2, 1) := by decide +kernel
theorem dX8_childrenOf_35 : decode cX8_childrenOf 35 = .ok (.ireturn, 1) := by decide +kernel
set_option maxRecDepth 100000 in
set_option maxHeartbeats 8000000 in
theorem c_X1_firstBehind {l : Launch} {D : va_G} {cy : Nat → ClassId} {L : List Nat} {κ ln : Nat → Nat} {R : Nat → Nat → Option Nat} {I : Nat → Nat → Int32} {J : Nat → Nat → Int64} {ow : Nat → Nat × Nat} (W9 : ∀ a ∈ L, Shp L κ ln R ow a) {x : Nat} (hLx : x ∈ L) (hkx : κ x = 1) (a0 : Int32) (a1 : Int32) (ra0 : Rg 0 6 a0) (ra1 : Rg 0 127 a1) (hU : Iv L κ R ow I) : CtI l yX1_firstBehind cX1_firstBehind 5 (some .int) { frames := 0, cells := 0, slots := 0, locals := 0 } D cy L κ ln R I J [.ref x, .int a0, .int a1] (fun r I2 J2 => I = I2 ∧ J = J2 ∧ Rg (-1) 6 r) := by
  refine CtI.of (by decide +kernel) (Nat.le_of_ble_eq_true rfl) ?_
  intro p e s m below meth c B K
  have C := B.1
  obtain ⟨b_1, hb_1, hb_1L, hb_1k⟩ := shp_o (W9 x hLx) hkx 0 8 rfl (by decide)
  refine g_lo (is := [0, 1, 2]) (lo2 := [(0, .ref x), (1, .int a0), (2, .int a1)]) rfl ?_
  have l_5 : ∀ (n_5 : Nat) (v_2 : Int32) (rv_2 : Rg 0 6 v_2) (v_3 : Int32) (rv_3 : Rg 0 127 v_3) (v_4 : Int32) (rv_4 : Rg 0 6 v_4) (v_5 : Int32) (rv_5 : Rg 1 7 v_5) (hm_6 : 7 < (v_5 : Int32).toInt + (n_5 : Int)), WG p l e { frames := 0, cells := 0, slots := 0, locals := 0 } s m ([.ref x, .int a0, .int a1] : List Value).toArray below meth c 5 0 0 (MQ below (Qi_ D cy L κ ln R (fun r I2 J2 => I = I2 ∧ J = J2 ∧ Rg (-1) 6 r)) ([.ref x, .int a0, .int a1] : List Value).toArray s 0 0 (Al_ L)) D cy (Al_ L) s.heap L κ ln R I J 5 [(0, .ref x), (1, .int v_2), (2, .int v_3), (3, .int v_4), (4, .int v_5)] [] := by
    intro n_5
    induction n_5 with
    | zero =>
      intro v_2 rv_2 v_3 rv_3 v_4 rv_4 v_5 rv_5 hm_6
      exact ms_0 rv_5 hm_6
    | succ n_5 ih_5 =>
      intro v_2 rv_2 v_3 rv_3 v_4 rv_4 v_5 rv_5 hm_6
      refine g_iload C 4 dX1_firstBehind_5 rfl ?_
      refine g_aload_n C 0 dX1_firstBehind_7 rfl rfl ?_
      refine g_getR C K hLx hkx f_1_52 hb_1 dX1_firstBehind_8 ?_
      obtain ⟨x_7, hx_7, rx_7⟩ := ex_get (I := I) (a := b_1) (j := 5) (lo := 0) (hi := 7) hU.1 hb_1L (ro_o hb_1k (by decide)) rfl
      refine g_getI C K hb_1L hb_1k f_1_68 (v := x_7) hx_7 dX1_firstBehind_11 ?_
      refine g_icmp_ge C (tgt := 54) dX1_firstBehind_14 (by decide) (fun h_8 => ?_) (fun h_8 => ?_)
      · skip
        refine g_iconst C (v := (-1)) dX1_firstBehind_54 (by decide) ?_
        exact g_zret (ty := .int) (r := (-1)) B K rfl (rfl) ⟨rfl, rfl, rg_w rc_m1 (by decide) (by decide)⟩ dX1_firstBehind_55
      · skip
        have r_9 := lt_l (hi := 6) (nle h_8) rv_5 rx_7 (by decide)
        have r_10 := lt_r (lo := 2) (nle h_8) rv_5 rx_7 (by decide)
        refine g_iload_n C 3 dX1_firstBehind_17 rfl rfl ?_
        refine g_iconst C (v := 1) dX1_firstBehind_18 (by decide) ?_
        obtain ⟨x_11, hx_11, rx_11, tx_11⟩ := ex_add 1 7 rv_4 rc_1 (by decide) (by decide) (by decide) (by decide)
        refine g_iadd C (v := x_11) dX1_firstBehind_19 hx_11 ?_
        refine g_aload_n C 0 dX1_firstBehind_20 rfl rfl ?_
        refine g_getR C K hLx hkx f_1_52 hb_1 dX1_firstBehind_21 ?_
        refine g_getI C K hb_1L hb_1k f_1_68 (v := x_7) hx_7 dX1_firstBehind_24 ?_
        refine g_icmp_ge C (tgt := 36) dX1_firstBehind_27 (by decide) (fun h_12 => ?_) (fun h_12 => ?_)
        · skip
          have r_13 := le_r (h_12) r_10 rx_11
          refine g_iconst C (v := 0) dX1_firstBehind_36 (by decide) ?_
          refine g_istore_n C dX1_firstBehind_37 rfl (by decide) (lo2 := [(3, .int 0), (0, .ref x), (1, .int v_2), (2, .int v_3), (4, .int v_5)]) rfl ?_
          refine g_iload_n C 3 dX1_firstBehind_38 rfl rfl ?_
          refine g_iload_n C 0 dX1_firstBehind_39 rfl rfl ?_
          obtain ⟨x_14, hx_14, rx_14⟩ := ex_shr (x := v_3) (y := 0) (b := 127) (rv_3)
          refine g_ishr C (v := x_14) dX1_firstBehind_40 hx_14 ?_
          refine g_iconst C (v := 1) dX1_firstBehind_41 (by decide) ?_
          obtain ⟨x_15, hx_15, rx_15⟩ := ex_andr (x := x_14) (y := 1) (b := 1) (rg_w rc_1 (by decide) (by decide))
          refine g_iand C (v := x_15) dX1_firstBehind_42 hx_15 ?_
          refine g_if_eq C (tgt := 48) dX1_firstBehind_43 (by decide) (fun h_16 => ?_) (fun h_16 => ?_)
          · skip
            have r_17 := (⟨(rx_15).1, (eq_rg (h_16) rc_0).2⟩ : Rg 0 0 x_15)
            obtain ⟨x_18, hx_18, rx_18, tx_18⟩ := ex_add (y := 1) 2 7 r_9 rc_1 (by decide) (by decide) (by decide) (by decide)
            refine g_iinc C dX1_firstBehind_48 (k := 4) (v := x_18) rfl hx_18 (by decide) (lo2 := [(4, .int x_18), (3, .int 0), (0, .ref x), (1, .int v_2), (2, .int v_3)]) rfl ?_
            refine g_goto C (tgt := 5) dX1_firstBehind_51 (by decide) ?_
            refine g_lo (is := [2, 3, 4, 1, 0]) (lo2 := [(0, .ref x), (1, .int v_2), (2, .int v_3), (3, .int 0), (4, .int x_18)]) rfl ?_
            exact ih_5 v_2 (rv_2) v_3 (rv_3) 0 (rg_w rc_0 (by decide) (by decide)) x_18 (rg_w rx_18 (by decide) (by decide)) (ms_1 hm_6 (ti_k tx_18 rc_1) (by decide))
          · skip
            have n_19 : ¬ x_15 = 0 := h_16
            have r_20 := ne_lo (lo := 1) n_19 rx_15 rc_0 rfl (by decide)
            refine g_iload_n C 0 dX1_firstBehind_46 rfl rfl ?_
            exact g_zret (ty := .int) (r := 0) B K rfl (rfl) ⟨rfl, rfl, rg_w rc_0 (by decide) (by decide)⟩ dX1_firstBehind_47
        · skip
          have r_21 := lt_l (hi := 6) (nle h_12) rx_11 r_10 (by decide)
          refine g_iload_n C 3 dX1_firstBehind_30 rfl rfl ?_
          refine g_iconst C (v := 1) dX1_firstBehind_31 (by decide) ?_
          refine g_iadd C (v := x_11) dX1_firstBehind_32 hx_11 ?_
          refine g_goto C (tgt := 37) dX1_firstBehind_33 (by decide) ?_
          refine g_istore_n C dX1_firstBehind_37 rfl (by decide) (lo2 := [(3, .int x_11), (0, .ref x), (1, .int v_2), (2, .int v_3), (4, .int v_5)]) rfl ?_
          refine g_iload_n C 3 dX1_firstBehind_38 rfl rfl ?_
          refine g_iload_n C 0 dX1_firstBehind_39 rfl rfl ?_
          obtain ⟨x_22, hx_22, rx_22⟩ := ex_shr (x := v_3) (y := x_11) (b := 127) (rv_3)
          refine g_ishr C (v := x_22) dX1_firstBehind_40 hx_22 ?_
          refine g_iconst C (v := 1) dX1_firstBehind_41 (by decide) ?_
          obtain ⟨x_23, hx_23, rx_23⟩ := ex_andr (x := x_22) (y := 1) (b := 1) (rg_w rc_1 (by decide) (by decide))
          refine g_iand C (v := x_23) dX1_firstBehind_42 hx_23 ?_
          refine g_if_eq C (tgt := 48) dX1_firstBehind_43 (by decide) (fun h_24 => ?_) (fun h_24 => ?_)
          · skip
            have r_25 := (⟨(rx_23).1, (eq_rg (h_24) rc_0).2⟩ : Rg 0 0 x_23)
            obtain ⟨x_26, hx_26, rx_26, tx_26⟩ := ex_add (y := 1) 2 7 r_9 rc_1 (by decide) (by decide) (by decide) (by decide)
            refine g_iinc C dX1_firstBehind_48 (k := 4) (v := x_26) rfl hx_26 (by decide) (lo2 := [(4, .int x_26), (3, .int x_11), (0, .ref x), (1, .int v_2), (2, .int v_3)]) rfl ?_
            refine g_goto C (tgt := 5) dX1_firstBehind_51 (by decide) ?_
            refine g_lo (is := [2, 3, 4, 1, 0]) (lo2 := [(0, .ref x), (1, .int v_2), (2, .int v_3), (3, .int x_11), (4, .int x_26)]) rfl ?_
            exact ih_5 v_2 (rv_2) v_3 (rv_3) x_11 (rg_w r_21 (by decide) (by decide)) x_26 (rg_w rx_26 (by decide) (by decide)) (ms_1 hm_6 (ti_k tx_26 rc_1) (by decide))
          · skip
            have n_27 : ¬ x_23 = 0 := h_24
            have r_28 := ne_lo (lo := 1) n_27 rx_23 rc_0 rfl (by decide)
            refine g_iload_n C 0 dX1_firstBehind_46 rfl rfl ?_
            exact g_zret (ty := .int) (r := x_11) B K rfl (rfl) ⟨rfl, rfl, rg_w r_21 (by decide) (by decide)⟩ dX1_firstBehind_47
  refine g_iload_n C 1 dX1_firstBehind_0 rfl rfl ?_
  refine g_istore_n C dX1_firstBehind_1 rfl (by decide) (lo2 := [(3, .int a0), (0, .ref x), (1, .int a0), (2, .int a1)]) rfl ?_
  refine g_iconst C (v := 1) dX1_firstBehind_2 (by decide) ?_
  refine g_istore C dX1_firstBehind_3 (by decide) (lo2 := [(4, .int 1), (3, .int a0), (0, .ref x), (1, .int a0), (2, .int a1)]) rfl ?_
  refine g_lo (is := [2, 3, 4, 1, 0]) (lo2 := [(0, .ref x), (1, .int a0), (2, .int a1), (3, .int a0), (4, .int 1)]) rfl ?_
  exact l_5 7 a0 (ra0) a1 (ra1) a0 (ra0) 1 (rg_w rc_1 (by decide) (by decide)) (ms_s (a := 1) (b := 7) (N := 7) (rg_w rc_1 (by decide) (by decide)) (by decide))
set_option maxRecDepth 100000 in
set_option maxHeartbeats 8000000 in
theorem c_X1_leastFed {l : Launch} {D : va_G} {cy : Nat → ClassId} {L : List Nat} {κ ln : Nat → Nat} {R : Nat → Nat → Option Nat} {I : Nat → Nat → Int32} {J : Nat → Nat → Int64} {ow : Nat → Nat × Nat} (W9 : ∀ a ∈ L, Shp L κ ln R ow a) {x : Nat} (hLx : x ∈ L) (hkx : κ x = 1) (a0 : Int32) (ra0 : Rg 0 127 a0) (hU : Iv L κ R ow I) : CtI l yX1_leastFed cX1_leastFed 4 (some .int) { frames := 0, cells := 0, slots := 0, locals := 0 } D cy L κ ln R I J [.ref x, .int a0] (fun r I2 J2 => I = I2 ∧ J = J2 ∧ Rg (-1) 6 r) := by
  refine CtI.of (by decide +kernel) (Nat.le_of_ble_eq_true rfl) ?_
  intro p e s m below meth c B K
  have C := B.1
  obtain ⟨b_1, hb_1, hb_1L, hb_1k, hb_1n, hb_1o⟩ := shp_a (W9 x hLx) hkx 4 14 7 rfl (by decide)
  obtain ⟨b_2, hb_2, hb_2L, hb_2k⟩ := shp_o (W9 x hLx) hkx 0 8 rfl (by decide)
  refine g_lo (is := [0, 1]) (lo2 := [(0, .ref x), (1, .int a0)]) rfl ?_
  have l_4 : ∀ (n_4 : Nat) (v_3 : Int32) (rv_3 : Rg 0 127 v_3) (v_4 : Int32) (rv_4 : Rg (-1) 6 v_4) (v_5 : Int32) (rv_5 : Rg 0 7 v_5) (hm_6 : 7 < (v_5 : Int32).toInt + (n_4 : Int)), WG p l e { frames := 0, cells := 0, slots := 0, locals := 0 } s m ([.ref x, .int a0] : List Value).toArray below meth c 4 0 0 (MQ below (Qi_ D cy L κ ln R (fun r I2 J2 => I = I2 ∧ J = J2 ∧ Rg (-1) 6 r)) ([.ref x, .int a0] : List Value).toArray s 0 0 (Al_ L)) D cy (Al_ L) s.heap L κ ln R I J 4 [(0, .ref x), (1, .int v_3), (2, .int v_4), (3, .int v_5)] [] := by
    intro n_4
    induction n_4 with
    | zero =>
      intro v_3 rv_3 v_4 rv_4 v_5 rv_5 hm_6
      exact ms_0 rv_5 hm_6
    | succ n_4 ih_4 =>
      intro v_3 rv_3 v_4 rv_4 v_5 rv_5 hm_6
      have j_45 : ∀ (v_7 : Int32) (rv_7 : Rg 0 127 v_7) (v_8 : Int32) (rv_8 : Rg (-1) 6 v_8) (v_9 : Int32) (rv_9 : Rg 0 6 v_9) (v_10 : Int32) (rv_10 : Rg 1 7 v_10) (q_11 : I b_2 5 = v_10) (hm_12 : 7 < (v_9 : Int32).toInt + ((n_4 + 1 : Nat) : Int)), WG p l e { frames := 0, cells := 0, slots := 0, locals := 0 } s m ([.ref x, .int a0] : List Value).toArray below meth c 4 0 0 (MQ below (Qi_ D cy L κ ln R (fun r I2 J2 => I = I2 ∧ J = J2 ∧ Rg (-1) 6 r)) ([.ref x, .int a0] : List Value).toArray s 0 0 (Al_ L)) D cy (Al_ L) s.heap L κ ln R I J 45 [(0, .ref x), (1, .int v_7), (2, .int v_8), (3, .int v_9)] [] := by
        intro v_7 rv_7 v_8 rv_8 v_9 rv_9 v_10 rv_10 q_11 hm_12
        obtain ⟨x_13, hx_13, rx_13, tx_13⟩ := ex_add (y := 1) 1 7 rv_9 rc_1 (by decide) (by decide) (by decide) (by decide)
        refine g_iinc C dX1_leastFed_45 (k := 3) (v := x_13) rfl hx_13 (by decide) (lo2 := [(3, .int x_13), (0, .ref x), (1, .int v_7), (2, .int v_8)]) rfl ?_
        refine g_goto C (tgt := 4) dX1_leastFed_48 (by decide) ?_
        refine g_lo (is := [1, 2, 3, 0]) (lo2 := [(0, .ref x), (1, .int v_7), (2, .int v_8), (3, .int x_13)]) rfl ?_
        exact ih_4 v_7 (rv_7) v_8 (rv_8) x_13 (rg_w rx_13 (by decide) (by decide)) (ms_1 hm_12 (ti_k tx_13 rc_1) (by decide))
      have j_43 : ∀ (v_14 : Int32) (rv_14 : Rg 0 127 v_14) (v_15 : Int32) (rv_15 : Rg (-1) 6 v_15) (v_16 : Int32) (rv_16 : Rg 0 6 v_16) (v_17 : Int32) (rv_17 : Rg 1 7 v_17) (q_18 : I b_2 5 = v_17) (hm_19 : 7 < (v_16 : Int32).toInt + ((n_4 + 1 : Nat) : Int)), WG p l e { frames := 0, cells := 0, slots := 0, locals := 0 } s m ([.ref x, .int a0] : List Value).toArray below meth c 4 0 0 (MQ below (Qi_ D cy L κ ln R (fun r I2 J2 => I = I2 ∧ J = J2 ∧ Rg (-1) 6 r)) ([.ref x, .int a0] : List Value).toArray s 0 0 (Al_ L)) D cy (Al_ L) s.heap L κ ln R I J 43 [(0, .ref x), (1, .int v_14), (2, .int v_15), (3, .int v_16)] [] := by
        intro v_14 rv_14 v_15 rv_15 v_16 rv_16 v_17 rv_17 q_18 hm_19
        refine g_iload_n C 3 dX1_leastFed_43 rfl rfl ?_
        refine g_istore_n C dX1_leastFed_44 rfl (by decide) (lo2 := [(2, .int v_16), (0, .ref x), (1, .int v_14), (3, .int v_16)]) rfl ?_
        refine g_lo (is := [1, 2, 0, 3]) (lo2 := [(0, .ref x), (1, .int v_14), (2, .int v_16), (3, .int v_16)]) rfl ?_
        exact j_45 v_14 (rv_14) v_16 (rg_w rv_16 (by decide) (by decide)) v_16 (rv_16) v_17 (rv_17) q_18 hm_19
      refine g_iload_n C 3 dX1_leastFed_4 rfl rfl ?_
      refine g_aload_n C 0 dX1_leastFed_5 rfl rfl ?_
      refine g_getR C K hLx hkx f_1_52 hb_2 dX1_leastFed_6 ?_
      obtain ⟨x_20, hx_20, rx_20⟩ := ex_get (I := I) (a := b_2) (j := 5) (lo := 0) (hi := 7) hU.1 hb_2L (ro_o hb_2k (by decide)) rfl
      refine g_getI C K hb_2L hb_2k f_1_68 (v := x_20) hx_20 dX1_leastFed_9 ?_
      refine g_icmp_ge C (tgt := 51) dX1_leastFed_12 (by decide) (fun h_21 => ?_) (fun h_21 => ?_)
      · skip
        refine g_iload_n C 2 dX1_leastFed_51 rfl rfl ?_
        exact g_zret (ty := .int) (r := v_4) B K rfl (rfl) ⟨rfl, rfl, rv_4⟩ dX1_leastFed_52
      · skip
        have r_22 := lt_l (hi := 6) (nle h_21) rv_5 rx_20 (by decide)
        have r_23 := lt_r (lo := 1) (nle h_21) rv_5 rx_20 (by decide)
        refine g_iload_n C 1 dX1_leastFed_15 rfl rfl ?_
        refine g_iload_n C 3 dX1_leastFed_16 rfl rfl ?_
        obtain ⟨x_24, hx_24, rx_24⟩ := ex_shr (x := v_3) (y := v_5) (b := 127) (rv_3)
        refine g_ishr C (v := x_24) dX1_leastFed_17 hx_24 ?_
        refine g_iconst C (v := 1) dX1_leastFed_18 (by decide) ?_
        obtain ⟨x_25, hx_25, rx_25⟩ := ex_andr (x := x_24) (y := 1) (b := 1) (rg_w rc_1 (by decide) (by decide))
        refine g_iand C (v := x_25) dX1_leastFed_19 hx_25 ?_
        refine g_if_eq C (tgt := 45) dX1_leastFed_20 (by decide) (fun h_26 => ?_) (fun h_26 => ?_)
        · skip
          have r_27 := (⟨(rx_25).1, (eq_rg (h_26) rc_0).2⟩ : Rg 0 0 x_25)
          refine g_lo (is := [0, 1, 2, 3]) (lo2 := [(0, .ref x), (1, .int v_3), (2, .int v_4), (3, .int v_5)]) rfl ?_
          exact j_45 v_3 (rv_3) v_4 (rv_4) v_5 (r_22) x_20 (r_23) hx_20 hm_6
        · skip
          have n_28 : ¬ x_25 = 0 := h_26
          have r_29 := ne_lo (lo := 1) n_28 rx_25 rc_0 rfl (by decide)
          refine g_iload_n C 2 dX1_leastFed_23 rfl rfl ?_
          refine g_iconst C (v := (-1)) dX1_leastFed_24 (by decide) ?_
          refine g_icmp_eq C (tgt := 43) dX1_leastFed_25 (by decide) (fun h_30 => ?_) (fun h_30 => ?_)
          · skip
            have r_31 := (⟨(rv_4).1, (eq_rg (h_30) rc_m1).2⟩ : Rg (-1) (-1) v_4)
            refine g_lo (is := [0, 1, 2, 3]) (lo2 := [(0, .ref x), (1, .int v_3), (2, .int v_4), (3, .int v_5)]) rfl ?_
            exact j_43 v_3 (rv_3) v_4 (rg_w r_31 (by decide) (by decide)) v_5 (r_22) x_20 (r_23) hx_20 hm_6
          · skip
            have n_32 : ¬ v_4 = (-1) := h_30
            have r_33 := ne_lo (lo := 0) n_32 rv_4 rc_m1 rfl (by decide)
            refine g_aload_n C 0 dX1_leastFed_28 rfl rfl ?_
            refine g_getR C K hLx hkx f_1_21 hb_1 dX1_leastFed_29 ?_
            refine g_iload_n C 3 dX1_leastFed_32 rfl rfl ?_
            obtain ⟨x_34, hx_34, rx_34⟩ := ex_any (z0 := I b_1 (v_5.toNatClampNeg))
            refine h_iald C K hb_1L hb_1k (v := x_34) (v_5.toNatClampNeg) (rfl) (ix_0 r_22 (by decide)) (ix_lt r_22 (by decide) hb_1n (by decide)) hx_34 dX1_leastFed_33 ?_
            refine g_aload_n C 0 dX1_leastFed_34 rfl rfl ?_
            refine g_getR C K hLx hkx f_1_21 hb_1 dX1_leastFed_35 ?_
            refine g_iload_n C 2 dX1_leastFed_38 rfl rfl ?_
            obtain ⟨x_35, hx_35, rx_35⟩ := ex_any (z0 := I b_1 (v_4.toNatClampNeg))
            refine h_iald C K hb_1L hb_1k (v := x_35) (v_4.toNatClampNeg) (rfl) (ix_0 r_33 (by decide)) (ix_lt r_33 (by decide) hb_1n (by decide)) hx_35 dX1_leastFed_39 ?_
            refine g_icmp_ge C (tgt := 45) dX1_leastFed_40 (by decide) (fun h_36 => ?_) (fun h_36 => ?_)
            · skip
              refine g_lo (is := [0, 1, 2, 3]) (lo2 := [(0, .ref x), (1, .int v_3), (2, .int v_4), (3, .int v_5)]) rfl ?_
              exact j_45 v_3 (rv_3) v_4 (rg_w r_33 (by decide) (by decide)) v_5 (r_22) x_20 (r_23) hx_20 hm_6
            · skip
              have r_37 := lt_l (hi := 2147483646) (nle h_36) rx_34 rx_35 (by decide)
              have r_38 := lt_r (lo := (-2147483647)) (nle h_36) rx_34 rx_35 (by decide)
              refine g_lo (is := [0, 1, 2, 3]) (lo2 := [(0, .ref x), (1, .int v_3), (2, .int v_4), (3, .int v_5)]) rfl ?_
              exact j_43 v_3 (rv_3) v_4 (rg_w r_33 (by decide) (by decide)) v_5 (r_22) x_20 (r_23) hx_20 hm_6
  refine g_iconst C (v := (-1)) dX1_leastFed_0 (by decide) ?_
  refine g_istore_n C dX1_leastFed_1 rfl (by decide) (lo2 := [(2, .int (-1)), (0, .ref x), (1, .int a0)]) rfl ?_
  refine g_iconst C (v := 0) dX1_leastFed_2 (by decide) ?_
  refine g_istore_n C dX1_leastFed_3 rfl (by decide) (lo2 := [(3, .int 0), (2, .int (-1)), (0, .ref x), (1, .int a0)]) rfl ?_
  refine g_lo (is := [2, 3, 1, 0]) (lo2 := [(0, .ref x), (1, .int a0), (2, .int (-1)), (3, .int 0)]) rfl ?_
  exact l_4 8 a0 (ra0) (-1) (rg_w rc_m1 (by decide) (by decide)) 0 (rg_w rc_0 (by decide) (by decide)) (ms_s (a := 0) (b := 7) (N := 8) (rg_w rc_0 (by decide) (by decide)) (by decide))
set_option maxRecDepth 100000 in
set_option maxHeartbeats 8000000 in
theorem c_X8_childrenOf {l : Launch} {D : va_G} {cy : Nat → ClassId} {L : List Nat} {κ ln : Nat → Nat} {R : Nat → Nat → Option Nat} {I : Nat → Nat → Int32} {J : Nat → Nat → Int64} {ow : Nat → Nat × Nat} (W9 : ∀ a ∈ L, Shp L κ ln R ow a) {x : Nat} (hLx : x ∈ L) (hkx : κ x = 8) (a0 : Int32) (ra0 : Rg 0 6 a0) (hU : Iv L κ R ow I) : CtI l yX8_childrenOf cX8_childrenOf 4 (some .int) { frames := 0, cells := 0, slots := 0, locals := 0 } D cy L κ ln R I J [.ref x, .int a0] (fun r I2 J2 => I = I2 ∧ J = J2 ∧ Rg 0 127 r) := by
  refine CtI.of (by decide +kernel) (Nat.le_of_ble_eq_true rfl) ?_
  intro p e s m below meth c B K
  have C := B.1
  obtain ⟨b_1, hb_1, hb_1L, hb_1k, hb_1n, hb_1o⟩ := shp_a (W9 x hLx) hkx 2 14 7 rfl (by decide)
  refine g_lo (is := [0, 1]) (lo2 := [(0, .ref x), (1, .int a0)]) rfl ?_
  have l_4 : ∀ (n_4 : Nat) (v_2 : Int32) (rv_2 : Rg 0 6 v_2) (v_3 : Int32) (rv_3 : Rg 0 127 v_3) (v_4 : Int32) (rv_4 : Rg 0 7 v_4) (hm_5 : 7 < (v_4 : Int32).toInt + (n_4 : Int)), WG p l e { frames := 0, cells := 0, slots := 0, locals := 0 } s m ([.ref x, .int a0] : List Value).toArray below meth c 4 0 0 (MQ below (Qi_ D cy L κ ln R (fun r I2 J2 => I = I2 ∧ J = J2 ∧ Rg 0 127 r)) ([.ref x, .int a0] : List Value).toArray s 0 0 (Al_ L)) D cy (Al_ L) s.heap L κ ln R I J 4 [(0, .ref x), (1, .int v_2), (2, .int v_3), (3, .int v_4)] [] := by
    intro n_4
    induction n_4 with
    | zero =>
      intro v_2 rv_2 v_3 rv_3 v_4 rv_4 hm_5
      exact ms_0 rv_4 hm_5
    | succ n_4 ih_4 =>
      intro v_2 rv_2 v_3 rv_3 v_4 rv_4 hm_5
      have j_28 : ∀ (v_6 : Int32) (rv_6 : Rg 0 6 v_6) (v_7 : Int32) (rv_7 : Rg 0 127 v_7) (v_8 : Int32) (rv_8 : Rg 0 6 v_8) (v_9 : Int32) (rv_9 : Rg 1 7 v_9) (q_10 : I x 5 = v_9) (hm_11 : 7 < (v_8 : Int32).toInt + ((n_4 + 1 : Nat) : Int)), WG p l e { frames := 0, cells := 0, slots := 0, locals := 0 } s m ([.ref x, .int a0] : List Value).toArray below meth c 4 0 0 (MQ below (Qi_ D cy L κ ln R (fun r I2 J2 => I = I2 ∧ J = J2 ∧ Rg 0 127 r)) ([.ref x, .int a0] : List Value).toArray s 0 0 (Al_ L)) D cy (Al_ L) s.heap L κ ln R I J 28 [(0, .ref x), (1, .int v_6), (2, .int v_7), (3, .int v_8)] [] := by
        intro v_6 rv_6 v_7 rv_7 v_8 rv_8 v_9 rv_9 q_10 hm_11
        obtain ⟨x_12, hx_12, rx_12, tx_12⟩ := ex_add (y := 1) 1 7 rv_8 rc_1 (by decide) (by decide) (by decide) (by decide)
        refine g_iinc C dX8_childrenOf_28 (k := 3) (v := x_12) rfl hx_12 (by decide) (lo2 := [(3, .int x_12), (0, .ref x), (1, .int v_6), (2, .int v_7)]) rfl ?_
        refine g_goto C (tgt := 4) dX8_childrenOf_31 (by decide) ?_
        refine g_lo (is := [1, 2, 3, 0]) (lo2 := [(0, .ref x), (1, .int v_6), (2, .int v_7), (3, .int x_12)]) rfl ?_
        exact ih_4 v_6 (rv_6) v_7 (rv_7) x_12 (rg_w rx_12 (by decide) (by decide)) (ms_1 hm_11 (ti_k tx_12 rc_1) (by decide))
      refine g_iload_n C 3 dX8_childrenOf_4 rfl rfl ?_
      refine g_aload_n C 0 dX8_childrenOf_5 rfl rfl ?_
      obtain ⟨x_13, hx_13, rx_13⟩ := ex_get (I := I) (a := x) (j := 5) (lo := 0) (hi := 7) hU.1 hLx (ro_o hkx (by decide)) rfl
      refine g_getI C K hLx hkx f_8_28 (v := x_13) hx_13 dX8_childrenOf_6 ?_
      refine g_icmp_ge C (tgt := 34) dX8_childrenOf_9 (by decide) (fun h_14 => ?_) (fun h_14 => ?_)
      · skip
        refine g_iload_n C 2 dX8_childrenOf_34 rfl rfl ?_
        exact g_zret (ty := .int) (r := v_3) B K rfl (rfl) ⟨rfl, rfl, rv_3⟩ dX8_childrenOf_35
      · skip
        have r_15 := lt_l (hi := 6) (nle h_14) rv_4 rx_13 (by decide)
        have r_16 := lt_r (lo := 1) (nle h_14) rv_4 rx_13 (by decide)
        refine g_aload_n C 0 dX8_childrenOf_12 rfl rfl ?_
        refine g_getR C K hLx hkx f_8_19 hb_1 dX8_childrenOf_13 ?_
        refine g_iload_n C 3 dX8_childrenOf_16 rfl rfl ?_
        obtain ⟨x_17, hx_17, rx_17⟩ := ex_get (I := I) (a := b_1) (j := v_4.toNatClampNeg) (lo := (-1)) (hi := 6) hU.1 hb_1L (ro_a hb_1k (by decide) hb_1o hkx rfl) (rfl)
        refine h_iald C K hb_1L hb_1k (v := x_17) (v_4.toNatClampNeg) (rfl) (ix_0 r_15 (by decide)) (ix_lt r_15 (by decide) hb_1n (by decide)) hx_17 dX8_childrenOf_17 ?_
        refine g_iload_n C 1 dX8_childrenOf_18 rfl rfl ?_
        refine g_icmp_ne C (tgt := 28) dX8_childrenOf_19 (by decide) (fun h_18 => ?_) (fun h_18 => ?_)
        · skip
          refine g_lo (is := [0, 1, 2, 3]) (lo2 := [(0, .ref x), (1, .int v_2), (2, .int v_3), (3, .int v_4)]) rfl ?_
          exact j_28 v_2 (rv_2) v_3 (rv_3) v_4 (r_15) x_13 (r_16) hx_13 hm_5
        · skip
          have r_19 := (⟨(eq_rg (h_18) rv_2).1, (rx_17).2⟩ : Rg 0 6 x_17)
          refine g_iload_n C 2 dX8_childrenOf_22 rfl rfl ?_
          refine g_iconst C (v := 1) dX8_childrenOf_23 (by decide) ?_
          refine g_iload_n C 3 dX8_childrenOf_24 rfl rfl ?_
          obtain ⟨x_20, hx_20, rx_20⟩ := ex_shl (x := 1) (y := v_4) 6 64 rfl (r_15) (by decide)
          refine g_ishl C (v := x_20) dX8_childrenOf_25 hx_20 ?_
          obtain ⟨x_21, hx_21, rx_21⟩ := ex_or 7 (x := v_3) (y := x_20) (b := 127) (c := 64) (rv_3) (rg_w rx_20 (by decide) (by decide)) (by decide) (by decide) (by decide) 127 (by decide)
          refine g_ior C (v := x_21) dX8_childrenOf_26 hx_21 ?_
          refine g_istore_n C dX8_childrenOf_27 rfl (by decide) (lo2 := [(2, .int x_21), (0, .ref x), (1, .int v_2), (3, .int v_4)]) rfl ?_
          refine g_lo (is := [1, 2, 0, 3]) (lo2 := [(0, .ref x), (1, .int v_2), (2, .int x_21), (3, .int v_4)]) rfl ?_
          exact j_28 v_2 (rv_2) x_21 (rx_21) v_4 (r_15) x_13 (r_16) hx_13 hm_5
  refine g_iconst C (v := 0) dX8_childrenOf_0 (by decide) ?_
  refine g_istore_n C dX8_childrenOf_1 rfl (by decide) (lo2 := [(2, .int 0), (0, .ref x), (1, .int a0)]) rfl ?_
  refine g_iconst C (v := 0) dX8_childrenOf_2 (by decide) ?_
  refine g_istore_n C dX8_childrenOf_3 rfl (by decide) (lo2 := [(3, .int 0), (2, .int 0), (0, .ref x), (1, .int a0)]) rfl ?_
  refine g_lo (is := [2, 3, 1, 0]) (lo2 := [(0, .ref x), (1, .int a0), (2, .int 0), (3, .int 0)]) rfl ?_
  exact l_4 8 a0 (ra0) 0 (rg_w rc_0 (by decide) (by decide)) 0 (rg_w rc_0 (by decide) (by decide)) (ms_s (a := 0) (b := 7) (N := 8) (rg_w rc_0 (by decide) (by decide)) (by decide))
set_option maxRecDepth 100000 in
set_option maxHeartbeats 8000000 in
theorem c_X1_heirOf {l : Launch} {D : va_G} {cy : Nat → ClassId} {L : List Nat} {κ ln : Nat → Nat} {R : Nat → Nat → Option Nat} {I : Nat → Nat → Int32} {J : Nat → Nat → Int64} {ow : Nat → Nat × Nat} (W9 : ∀ a ∈ L, Shp L κ ln R ow a) {x : Nat} (hLx : x ∈ L) (hkx : κ x = 1) (a0 : Int32) (a1 : Int32) (ra0 : Rg 0 6 a0) (hU : Iv L κ R ow I) : CtI l yX1_heirOf cX1_heirOf 5 (some .int) { frames := 1, cells := 0, slots := 0, locals := 24 } D cy L κ ln R I J [.ref x, .int a0, .int a1] (fun r I2 J2 => I = I2 ∧ J = J2 ∧ Rg (-1) 6 r) := by
  refine CtI.of (by decide +kernel) (Nat.le_of_ble_eq_true rfl) ?_
  intro p e s m below meth c B K
  have C := B.1
  obtain ⟨b_1, hb_1, hb_1L, hb_1k⟩ := shp_o (W9 x hLx) hkx 0 8 rfl (by decide)
  refine g_lo (is := [0, 1, 2]) (lo2 := [(0, .ref x), (1, .int a0), (2, .int a1)]) rfl ?_
  refine g_aload_n C 0 dX1_heirOf_0 rfl rfl ?_
  refine g_getR C K hLx hkx f_1_52 hb_1 dX1_heirOf_1 ?_
  refine g_callVI C K (c_X8_everybody W9 hb_1L hb_1k   hU) hb_1L hb_1k (by decide) rfl v_1_62 rfl ⟨rfl, rfl⟩ ⟨Nat.le_of_ble_eq_true rfl, Nat.le_of_ble_eq_true rfl⟩ (Nat.le_of_ble_eq_true rfl) ⟨Nat.le_of_ble_eq_true rfl, Nat.le_of_ble_eq_true rfl⟩ dX1_heirOf_4 rfl (st := []) (fun x_2 I_3 J_4 h_5 => ?_)
  obtain ⟨rfl, rfl, rx_2⟩ := h_5
  refine g_aload_n C 0 dX1_heirOf_7 rfl rfl ?_
  obtain ⟨x_6, hx_6, rx_6⟩ := ex_get (I := I) (a := x) (j := 7) (lo := (-2147483648)) (hi := 2147483647) hU.1 hLx (ro_o hkx (by decide)) rfl
  refine g_getI C K hLx hkx f_1_30 (v := x_6) hx_6 dX1_heirOf_8 ?_
  refine g_iconst C (v := (-1)) dX1_heirOf_11 (by decide) ?_
  obtain ⟨x_7, hx_7, rx_7⟩ := ex_any (z0 := x_6 ^^^ (-1))
  refine g_ixor C (v := x_7) dX1_heirOf_12 hx_7 ?_
  obtain ⟨x_8, hx_8, rx_8⟩ := ex_andl (x := x_2) (y := x_7) (b := 127) (rx_2)
  refine g_iand C (v := x_8) dX1_heirOf_13 hx_8 ?_
  refine g_iload_n C 2 dX1_heirOf_14 rfl rfl ?_
  refine g_iconst C (v := (-1)) dX1_heirOf_15 (by decide) ?_
  obtain ⟨x_9, hx_9, rx_9⟩ := ex_any (z0 := a1 ^^^ (-1))
  refine g_ixor C (v := x_9) dX1_heirOf_16 hx_9 ?_
  obtain ⟨x_10, hx_10, rx_10⟩ := ex_andl (x := x_8) (y := x_9) (b := 127) (rx_8)
  refine g_iand C (v := x_10) dX1_heirOf_17 hx_10 ?_
  refine g_iconst C (v := 1) dX1_heirOf_18 (by decide) ?_
  refine g_iload_n C 1 dX1_heirOf_19 rfl rfl ?_
  obtain ⟨x_11, hx_11, rx_11⟩ := ex_shl (x := 1) (y := a0) 6 64 rfl (ra0) (by decide)
  refine g_ishl C (v := x_11) dX1_heirOf_20 hx_11 ?_
  refine g_iconst C (v := (-1)) dX1_heirOf_21 (by decide) ?_
  obtain ⟨x_12, hx_12, rx_12⟩ := ex_any (z0 := x_11 ^^^ (-1))
  refine g_ixor C (v := x_12) dX1_heirOf_22 hx_12 ?_
  obtain ⟨x_13, hx_13, rx_13⟩ := ex_andl (x := x_10) (y := x_12) (b := 127) (rx_10)
  refine g_iand C (v := x_13) dX1_heirOf_23 hx_13 ?_
  refine g_istore_n C dX1_heirOf_24 rfl (by decide) (lo2 := [(3, .int x_13), (0, .ref x), (1, .int a0), (2, .int a1)]) rfl ?_
  refine g_aload_n C 1 dX1_heirOf_25 rfl rfl ?_
  refine g_getR C K hLx hkx f_1_52 hb_1 dX1_heirOf_26 ?_
  obtain ⟨x_14, hx_14, rx_14⟩ := ex_get (I := I) (a := b_1) (j := 7) (lo := (-2147483648)) (hi := 2147483647) hU.1 hb_1L (ro_o hb_1k (by decide)) rfl
  refine g_getI C K hb_1L hb_1k f_1_78 (v := x_14) hx_14 dX1_heirOf_29 ?_
  refine g_iconst C (v := 2) dX1_heirOf_32 (by decide) ?_
  refine g_icmp_ne C (tgt := 42) dX1_heirOf_33 (by decide) (fun h_15 => ?_) (fun h_15 => ?_)
  · skip
    have n_16 : ¬ x_14 = 2 := h_15
    refine g_aload_n C 1 dX1_heirOf_42 rfl rfl ?_
    refine g_getR C K hLx hkx f_1_52 hb_1 dX1_heirOf_43 ?_
    refine g_getI C K hb_1L hb_1k f_1_78 (v := x_14) hx_14 dX1_heirOf_46 ?_
    refine g_iconst C (v := 1) dX1_heirOf_49 (by decide) ?_
    refine g_icmp_ne C (tgt := 66) dX1_heirOf_50 (by decide) (fun h_17 => ?_) (fun h_17 => ?_)
    · skip
      have n_18 : ¬ x_14 = 1 := h_17
      refine g_iconst C (v := 0) dX1_heirOf_66 (by decide) ?_
      refine g_istore C dX1_heirOf_67 (by decide) (lo2 := [(4, .int 0), (3, .int x_13), (0, .ref x), (1, .int a0), (2, .int a1)]) rfl ?_
      refine g_aload_n C 2 dX1_heirOf_69 rfl rfl ?_
      refine g_iload_n C 3 dX1_heirOf_70 rfl rfl ?_
      refine g_iload C 0 dX1_heirOf_71 rfl ?_
      refine g_if_eq C (tgt := 81) dX1_heirOf_73 (by decide) (fun h_19 => ?_) (fun h_19 => ?_)
      · skip
        refine g_iload_n C 1 dX1_heirOf_81 rfl rfl ?_
        refine g_callVI C K (c_X1_firstBehind W9 hLx hkx a0 x_13 (ra0) (rx_13) hU) hLx hkx (by decide) rfl v_1_88 rfl ⟨rfl, rfl⟩ ⟨Nat.le_of_ble_eq_true rfl, Nat.le_of_ble_eq_true rfl⟩ (Nat.le_of_ble_eq_true rfl) ⟨Nat.le_of_ble_eq_true rfl, Nat.le_of_ble_eq_true rfl⟩ dX1_heirOf_82 rfl (st := []) (fun x_20 I_21 J_22 h_23 => ?_)
        obtain ⟨rfl, rfl, rx_20⟩ := h_23
        exact g_zret (ty := .int) (r := x_20) B K rfl (rfl) ⟨rfl, rfl, rx_20⟩ dX1_heirOf_85
      · skip
        exact absurd (h_19) (by decide)
    · skip
      have r_24 := (⟨(eq_rg (h_17) rc_1).1, (eq_rg (h_17) rc_1).2⟩ : Rg 1 1 x_14)
      refine g_iload_n C 0 dX1_heirOf_53 rfl rfl ?_
      refine g_aload_n C 1 dX1_heirOf_54 rfl rfl ?_
      refine g_getR C K hLx hkx f_1_52 hb_1 dX1_heirOf_55 ?_
      refine g_iload_n C 2 dX1_heirOf_58 rfl rfl ?_
      refine g_callVI C K (c_X8_childrenOf W9 hb_1L hb_1k a0 (ra0) hU) hb_1L hb_1k (by decide) rfl v_1_85 rfl ⟨rfl, rfl⟩ ⟨Nat.le_of_ble_eq_true rfl, Nat.le_of_ble_eq_true rfl⟩ (Nat.le_of_ble_eq_true rfl) ⟨Nat.le_of_ble_eq_true rfl, Nat.le_of_ble_eq_true rfl⟩ dX1_heirOf_59 rfl (st := [.int x_13]) (fun x_25 I_26 J_27 h_28 => ?_)
      obtain ⟨rfl, rfl, rx_25⟩ := h_28
      obtain ⟨x_29, hx_29, rx_29⟩ := ex_andl (x := x_13) (y := x_25) (b := 127) (rx_13)
      refine g_iand C (v := x_29) dX1_heirOf_62 hx_29 ?_
      refine g_goto C (tgt := 67) dX1_heirOf_63 (by decide) ?_
      refine g_istore C dX1_heirOf_67 (by decide) (lo2 := [(4, .int x_29), (3, .int x_13), (0, .ref x), (1, .int a0), (2, .int a1)]) rfl ?_
      refine g_aload_n C 2 dX1_heirOf_69 rfl rfl ?_
      refine g_iload_n C 3 dX1_heirOf_70 rfl rfl ?_
      refine g_iload C 0 dX1_heirOf_71 rfl ?_
      refine g_if_eq C (tgt := 81) dX1_heirOf_73 (by decide) (fun h_30 => ?_) (fun h_30 => ?_)
      · skip
        have r_31 := (⟨(rx_29).1, (eq_rg (h_30) rc_0).2⟩ : Rg 0 0 x_29)
        refine g_iload_n C 1 dX1_heirOf_81 rfl rfl ?_
        refine g_callVI C K (c_X1_firstBehind W9 hLx hkx a0 x_13 (ra0) (rx_13) hU) hLx hkx (by decide) rfl v_1_88 rfl ⟨rfl, rfl⟩ ⟨Nat.le_of_ble_eq_true rfl, Nat.le_of_ble_eq_true rfl⟩ (Nat.le_of_ble_eq_true rfl) ⟨Nat.le_of_ble_eq_true rfl, Nat.le_of_ble_eq_true rfl⟩ dX1_heirOf_82 rfl (st := []) (fun x_32 I_33 J_34 h_35 => ?_)
        obtain ⟨rfl, rfl, rx_32⟩ := h_35
        exact g_zret (ty := .int) (r := x_32) B K rfl (rfl) ⟨rfl, rfl, rx_32⟩ dX1_heirOf_85
      · skip
        have n_36 : ¬ x_29 = 0 := h_30
        have r_37 := ne_lo (lo := 1) n_36 rx_29 rc_0 rfl (by decide)
        refine g_iload C 0 dX1_heirOf_76 rfl ?_
        refine g_goto C (tgt := 82) dX1_heirOf_78 (by decide) ?_
        refine g_callVI C K (c_X1_firstBehind W9 hLx hkx a0 x_29 (ra0) (rg_w r_37 (by decide) (by decide)) hU) hLx hkx (by decide) rfl v_1_88 rfl ⟨rfl, rfl⟩ ⟨Nat.le_of_ble_eq_true rfl, Nat.le_of_ble_eq_true rfl⟩ (Nat.le_of_ble_eq_true rfl) ⟨Nat.le_of_ble_eq_true rfl, Nat.le_of_ble_eq_true rfl⟩ dX1_heirOf_82 rfl (st := []) (fun x_38 I_39 J_40 h_41 => ?_)
        obtain ⟨rfl, rfl, rx_38⟩ := h_41
        exact g_zret (ty := .int) (r := x_38) B K rfl (rfl) ⟨rfl, rfl, rx_38⟩ dX1_heirOf_85
  · skip
    have r_42 := (⟨(eq_rg (h_15) rc_2).1, (eq_rg (h_15) rc_2).2⟩ : Rg 2 2 x_14)
    refine g_aload_n C 1 dX1_heirOf_36 rfl rfl ?_
    refine g_iload_n C 0 dX1_heirOf_37 rfl rfl ?_
    refine g_callVI C K (c_X1_leastFed W9 hLx hkx x_13 (rx_13) hU) hLx hkx (by decide) rfl v_1_81 rfl ⟨rfl, rfl⟩ ⟨Nat.le_of_ble_eq_true rfl, Nat.le_of_ble_eq_true rfl⟩ (Nat.le_of_ble_eq_true rfl) ⟨Nat.le_of_ble_eq_true rfl, Nat.le_of_ble_eq_true rfl⟩ dX1_heirOf_38 rfl (st := []) (fun x_43 I_44 J_45 h_46 => ?_)
    obtain ⟨rfl, rfl, rx_43⟩ := h_46
    exact g_zret (ty := .int) (r := x_43) B K rfl (rfl) ⟨rfl, rfl, rx_43⟩ dX1_heirOf_41
set_option maxRecDepth 100000 in
set_option maxHeartbeats 8000000 in
theorem c_X1_passOn {l : Launch} {D : va_G} {cy : Nat → ClassId} {L : List Nat} {κ ln : Nat → Nat} {R : Nat → Nat → Option Nat} {I : Nat → Nat → Int32} {J : Nat → Nat → Int64} {ow : Nat → Nat × Nat} (W9 : ∀ a ∈ L, Shp L κ ln R ow a) {x : Nat} (hLx : x ∈ L) (hkx : κ x = 1) (a0 : Int32) (ra0 : Rg 0 6 a0) (hU : Iv L κ R ow I) : CtV l yX1_passOn cX1_passOn 7 none { frames := 2, cells := 0, slots := 0, locals := 60 } D cy L κ ln R I J [.ref x, .int a0] (fun I2 J2 => Iv L κ R ow I2 ∧ Fq L κ ow [110, 112, 16100, 16200, 16300] I I2 ∧ Fq L κ ow [] J J2) := by
  refine CtV.of (by decide +kernel) (Nat.le_of_ble_eq_true rfl) ?_
  intro p e s m below meth c B K
  have C := B.1
  have hF : Fq L κ ow [110, 112, 16100, 16200, 16300] I I := fq_rf
  have hG : Fq L κ ow [] J J := fq_rf
  obtain ⟨b_1, hb_1, hb_1L, hb_1k, hb_1n, hb_1o⟩ := shp_a (W9 x hLx) hkx 1 14 6 rfl (by decide)
  obtain ⟨b_2, hb_2, hb_2L, hb_2k⟩ := shp_o (W9 x hLx) hkx 0 8 rfl (by decide)
  refine g_lo (is := [0, 1]) (lo2 := [(0, .ref x), (1, .int a0)]) rfl ?_
  have l_21 : ∀ (n_21 : Nat) (I_3 : Nat → Nat → Int32) (J_4 : Nat → Nat → Int64) (hU_5 : Iv L κ R ow I_3) (hF_6 : Fq L κ ow [110, 112, 16100, 16200, 16300] I I_3) (hG_7 : Fq L κ ow [] J J_4) (v_8 : Int32) (rv_8 : Rg 0 6 v_8) (v_9 : Int32) (rv_9 : Rg (-1) 6 v_9) (v_10 : Int32) (v_11 : Int32) (rv_11 : Rg 0 6 v_11) (v_12 : Int32) (v_13 : Int32) (q_14 : I_3 x 8 = v_12) (q_15 : I_3 b_2 8 = v_13) (hm_16 : 6 < (v_11 : Int32).toInt + (n_21 : Int)), WG p l e { frames := 2, cells := 0, slots := 0, locals := 60 } s m ([.ref x, .int a0] : List Value).toArray below meth c 7 0 0 (MQ below (Qv_ D cy L κ ln R (fun I2 J2 => Iv L κ R ow I2 ∧ Fq L κ ow [110, 112, 16100, 16200, 16300] I I2 ∧ Fq L κ ow [] J J2)) ([.ref x, .int a0] : List Value).toArray s 0 0 (Al_ L)) D cy (Al_ L) s.heap L κ ln R I_3 J_4 21 [(0, .ref x), (1, .int v_8), (2, .int v_9), (3, .int v_10), (4, .int v_11)] [] := by
    intro n_21
    induction n_21 with
    | zero =>
      intro I_3 J_4 hU_5 hF_6 hG_7 v_8 rv_8 v_9 rv_9 v_10 v_11 rv_11 v_12 v_13 q_14 q_15 hm_16
      exact ms_0 rv_11 hm_16
    | succ n_21 ih_21 =>
      intro I_3 J_4 hU_5 hF_6 hG_7 v_8 rv_8 v_9 rv_9 v_10 v_11 rv_11 v_12 v_13 q_14 q_15 hm_16
      have j_111 : ∀ (I_17 : Nat → Nat → Int32) (J_18 : Nat → Nat → Int64) (hU_19 : Iv L κ R ow I_17) (hF_20 : Fq L κ ow [110, 112, 16100, 16200, 16300] I I_17) (hG_21 : Fq L κ ow [] J J_18) (v_22 : Int32) (rv_22 : Rg 0 6 v_22) (v_23 : Int32) (rv_23 : Rg (-1) 6 v_23) (v_24 : Int32) (v_25 : Int32) (rv_25 : Rg 0 5 v_25) (v_26 : Int32) (v_27 : Int32) (v_28 : Int32) (v_29 : Int32) (v_30 : Int32) (rv_30 : Rg 1 6 v_30) (v_31 : Int32) (q_32 : I_17 x 10 = v_28) (q_33 : I_17 x 8 = v_29) (q_34 : I_17 b_2 6 = v_30) (q_35 : I_17 b_2 8 = v_31) (hm_36 : 6 < (v_25 : Int32).toInt + ((n_21 + 1 : Nat) : Int)), WG p l e { frames := 2, cells := 0, slots := 0, locals := 60 } s m ([.ref x, .int a0] : List Value).toArray below meth c 7 0 0 (MQ below (Qv_ D cy L κ ln R (fun I2 J2 => Iv L κ R ow I2 ∧ Fq L κ ow [110, 112, 16100, 16200, 16300] I I2 ∧ Fq L κ ow [] J J2)) ([.ref x, .int a0] : List Value).toArray s 0 0 (Al_ L)) D cy (Al_ L) s.heap L κ ln R I_17 J_18 111 [(0, .ref x), (1, .int v_22), (2, .int v_23), (3, .int v_24), (4, .int v_25), (5, .int v_26), (6, .int v_27)] [] := by
        intro I_17 J_18 hU_19 hF_20 hG_21 v_22 rv_22 v_23 rv_23 v_24 v_25 rv_25 v_26 v_27 v_28 v_29 v_30 rv_30 v_31 q_32 q_33 q_34 q_35 hm_36
        obtain ⟨x_37, hx_37, rx_37, tx_37⟩ := ex_add (y := 1) 1 6 rv_25 rc_1 (by decide) (by decide) (by decide) (by decide)
        refine g_iinc C dX1_passOn_111 (k := 4) (v := x_37) rfl hx_37 (by decide) (lo2 := [(4, .int x_37), (0, .ref x), (1, .int v_22), (2, .int v_23), (3, .int v_24), (5, .int v_26), (6, .int v_27)]) rfl ?_
        refine g_goto C (tgt := 21) dX1_passOn_114 (by decide) ?_
        refine g_lo (is := [1, 2, 3, 4, 0]) (lo2 := [(0, .ref x), (1, .int v_22), (2, .int v_23), (3, .int v_24), (4, .int x_37)]) rfl ?_
        exact ih_21 I_17 J_18 hU_19 hF_20 hG_21 v_22 (rv_22) v_23 (rv_23) v_24 x_37 (rg_w rx_37 (by decide) (by decide)) v_29 v_31 q_33 q_35 (ms_1 hm_36 (ti_k tx_37 rc_1) (by decide))
      refine g_iload C 4 dX1_passOn_21 rfl ?_
      refine g_aload_n C 0 dX1_passOn_23 rfl rfl ?_
      refine g_getR C K hLx hkx f_1_52 hb_2 dX1_passOn_24 ?_
      obtain ⟨x_38, hx_38, rx_38⟩ := ex_get (I := I_3) (a := b_2) (j := 6) (lo := 0) (hi := 6) hU_5.1 hb_2L (ro_o hb_2k (by decide)) rfl
      refine g_getI C K hb_2L hb_2k f_1_97 (v := x_38) hx_38 dX1_passOn_27 ?_
      refine g_icmp_ge C (tgt := 117) dX1_passOn_30 (by decide) (fun h_39 => ?_) (fun h_39 => ?_)
      · skip
        refine g_aload_n C 0 dX1_passOn_117 rfl rfl ?_
        refine g_dup C dX1_passOn_118 rfl ?_
        obtain ⟨x_40, hx_40, rx_40⟩ := ex_get (I := I_3) (a := x) (j := 12) (lo := (-2147483648)) (hi := 2147483647) hU_5.1 hLx (ro_o hkx (by decide)) rfl
        refine g_getI C K hLx hkx f_1_46 (v := x_40) hx_40 dX1_passOn_119 ?_
        refine g_iconst C (v := 1) dX1_passOn_122 (by decide) ?_
        obtain ⟨x_41, hx_41, rx_41⟩ := ex_any (z0 := x_40 + 1)
        refine g_iadd C (v := x_41) dX1_passOn_123 hx_41 ?_
        refine h_putI C K hLx hkx f_1_46 p_1_12 dX1_passOn_124 (fun I_42 hI_42 => ?_)
        have hU_43 := iv_put W9 hU_5 hI_42 (ro_o hkx (by decide)) (lo := (-2147483648)) (hi := 2147483647) (rfl) (rx_41) rfl
        have hF_44 := fq_puto hF_6 hI_42 hkx (by decide) (by decide)
        exact g_vret B K rfl ⟨hU_43, hF_44, hG_7⟩ dX1_passOn_127
      · skip
        have r_45 := lt_l (hi := 5) (nle h_39) rv_11 rx_38 (by decide)
        have r_46 := lt_r (lo := 1) (nle h_39) rv_11 rx_38 (by decide)
        refine g_aload_n C 0 dX1_passOn_33 rfl rfl ?_
        refine g_iload_n C 1 dX1_passOn_34 rfl rfl ?_
        refine g_iload C 4 dX1_passOn_35 rfl ?_
        refine g_callVI C K (c_X1_onPlate W9 hLx hkx v_8 v_11 (rv_8) (r_45) hU_5) hLx hkx (by decide) rfl v_1_71 rfl ⟨rfl, rfl⟩ ⟨Nat.le_of_ble_eq_true rfl, Nat.le_of_ble_eq_true rfl⟩ (Nat.le_of_ble_eq_true rfl) ⟨Nat.le_of_ble_eq_true rfl, Nat.le_of_ble_eq_true rfl⟩ dX1_passOn_37 rfl (st := []) (fun x_47 I_48 J_49 h_50 => ?_)
        obtain ⟨rfl, rfl, rx_47, fx_47⟩ := h_50
        refine g_istore C dX1_passOn_40 (by decide) (lo2 := [(5, .int x_47), (0, .ref x), (1, .int v_8), (2, .int v_9), (3, .int v_10), (4, .int v_11)]) rfl ?_
        refine g_iload C 0 dX1_passOn_42 rfl ?_
        refine g_iload_n C 4 dX1_passOn_44 rfl rfl ?_
        obtain ⟨x_51, hx_51, rx_51⟩ := ex_min (-2147483648) 2147483647 rx_47 (rg_all v_10) (by decide) (by decide) (by decide)
        refine g_mmin C (v := x_51) mw_1_100 w_min (Nat.le_of_ble_eq_true rfl) (Nat.le_of_ble_eq_true rfl) ⟨Nat.le_of_ble_eq_true rfl, Nat.le_of_ble_eq_true rfl⟩ (hx_51) dX1_passOn_45 ?_
        refine g_istore C dX1_passOn_48 (by decide) (lo2 := [(6, .int x_51), (5, .int x_47), (0, .ref x), (1, .int v_8), (2, .int v_9), (3, .int v_10), (4, .int v_11)]) rfl ?_
        refine g_iload_n C 5 dX1_passOn_50 rfl rfl ?_
        refine g_iload C 0 dX1_passOn_51 rfl ?_
        obtain ⟨x_52, hx_52, rx_52⟩ := ex_any (z0 := v_10 - x_51)
        refine g_isub C (v := x_52) dX1_passOn_53 hx_52 ?_
        refine g_istore_n C dX1_passOn_54 rfl (by decide) (lo2 := [(3, .int x_52), (6, .int x_51), (5, .int x_47), (0, .ref x), (1, .int v_8), (2, .int v_9), (4, .int v_11)]) rfl ?_
        refine g_aload_n C 3 dX1_passOn_55 rfl rfl ?_
        refine g_dup C dX1_passOn_56 rfl ?_
        obtain ⟨x_53, hx_53, rx_53⟩ := ex_get (I := I_3) (a := x) (j := 10) (lo := (-2147483648)) (hi := 2147483647) hU_5.1 hLx (ro_o hkx (by decide)) rfl
        refine g_getI C K hLx hkx f_1_40 (v := x_53) hx_53 dX1_passOn_57 ?_
        refine g_iload C 1 dX1_passOn_60 rfl ?_
        obtain ⟨x_54, hx_54, rx_54⟩ := ex_any (z0 := x_53 + x_51)
        refine g_iadd C (v := x_54) dX1_passOn_62 hx_54 ?_
        refine h_putI C K hLx hkx f_1_40 p_1_10 dX1_passOn_63 (fun I_55 hI_55 => ?_)
        have hU_56 := iv_put W9 hU_5 hI_55 (ro_o hkx (by decide)) (lo := (-2147483648)) (hi := 2147483647) (rfl) (rx_54) rfl
        have hF_57 := fq_puto hF_6 hI_55 hkx (by decide) (by decide)
        refine g_aload_n C 3 dX1_passOn_66 rfl rfl ?_
        refine g_iload_n C 4 dX1_passOn_67 rfl rfl ?_
        refine g_iload C 6 dX1_passOn_68 rfl ?_
        refine g_iload C 2 dX1_passOn_70 rfl ?_
        obtain ⟨x_58, hx_58, rx_58⟩ := ex_any (z0 := -x_47)
        refine g_ineg C (v := x_58) dX1_passOn_72 hx_58 ?_
        refine g_callVV C K (c_X1_addToPlate W9 hLx hkx v_8 v_11 x_58 (rv_8) (r_45) hU_56) hLx hkx (by decide) rfl v_1_105 rfl ⟨rfl, rfl⟩ ⟨Nat.le_of_ble_eq_true rfl, Nat.le_of_ble_eq_true rfl⟩ (Nat.le_of_ble_eq_true rfl) ⟨Nat.le_of_ble_eq_true rfl, Nat.le_of_ble_eq_true rfl⟩ dX1_passOn_73 rfl (st := []) (fun I_60 J_61 h_62 => ?_)
        obtain ⟨hUI_60, hFI_60, hGJ_61, fx_59⟩ := h_62
        have hF_63 := fq_tr hF_57 hFI_60 (by decide)
        have hG_64 := fq_tr hG_7 hGJ_61 (by decide)
        refine g_iload_n C 5 dX1_passOn_76 rfl rfl ?_
        refine g_iconst C (v := (-1)) dX1_passOn_77 (by decide) ?_
        refine g_icmp_ne C (tgt := 99) dX1_passOn_78 (by decide) (fun h_65 => ?_) (fun h_65 => ?_)
        · skip
          have n_66 : ¬ v_9 = (-1) := h_65
          have r_67 := ne_lo (lo := 0) n_66 rv_9 rc_m1 rfl (by decide)
          refine g_aload_n C 3 dX1_passOn_99 rfl rfl ?_
          refine g_iload_n C 5 dX1_passOn_100 rfl rfl ?_
          refine g_iload C 6 dX1_passOn_101 rfl ?_
          refine g_iload C 2 dX1_passOn_103 rfl ?_
          refine g_iload C 1 dX1_passOn_105 rfl ?_
          obtain ⟨x_68, hx_68, rx_68⟩ := ex_any (z0 := x_47 - x_51)
          refine g_isub C (v := x_68) dX1_passOn_107 hx_68 ?_
          refine g_callVV C K (c_X1_addToPlate W9 hLx hkx v_9 v_11 x_68 (r_67) (r_45) hUI_60) hLx hkx (by decide) rfl v_1_105 rfl ⟨rfl, rfl⟩ ⟨Nat.le_of_ble_eq_true rfl, Nat.le_of_ble_eq_true rfl⟩ (Nat.le_of_ble_eq_true rfl) ⟨Nat.le_of_ble_eq_true rfl, Nat.le_of_ble_eq_true rfl⟩ dX1_passOn_108 rfl (st := []) (fun I_70 J_71 h_72 => ?_)
          obtain ⟨hUI_70, hFI_70, hGJ_71, fx_69⟩ := h_72
          have hF_73 := fq_tr hF_63 hFI_70 (by decide)
          have hG_74 := fq_tr hG_64 hGJ_71 (by decide)
          refine g_lo (is := [3, 4, 5, 0, 6, 2, 1]) (lo2 := [(0, .ref x), (1, .int v_8), (2, .int v_9), (3, .int x_52), (4, .int v_11), (5, .int x_47), (6, .int x_51)]) rfl ?_
          exact j_111 I_70 J_71 hUI_70 hF_73 hG_74 v_8 (rv_8) v_9 (rg_w r_67 (by decide) (by decide)) x_52 v_11 (r_45) x_47 x_51 x_54 v_12 x_38 (r_46) v_13 (fq_at hFI_70 hLx hkx (by decide) (by decide) (fq_at hFI_60 hLx hkx (by decide) (by decide) (kp_s hI_55))) (fq_at hFI_70 hLx hkx (by decide) (by decide) (fq_at hFI_60 hLx hkx (by decide) (by decide) (kp_j hI_55 (by decide) q_14))) (fq_at hFI_70 hb_2L hb_2k (by decide) (by decide) (fq_at hFI_60 hb_2L hb_2k (by decide) (by decide) (kp_k (κ := κ) hI_55 (by rw [hb_2k, hkx]; decide) hx_38))) (fq_at hFI_70 hb_2L hb_2k (by decide) (by decide) (fq_at hFI_60 hb_2L hb_2k (by decide) (by decide) (kp_k (κ := κ) hI_55 (by rw [hb_2k, hkx]; decide) q_15))) hm_16
        · skip
          have r_75 := (⟨(rv_9).1, (eq_rg (h_65) rc_m1).2⟩ : Rg (-1) (-1) v_9)
          refine g_aload_n C 3 dX1_passOn_81 rfl rfl ?_
          refine g_getR C K hLx hkx f_1_9 hb_1 dX1_passOn_82 ?_
          refine g_iload C 6 dX1_passOn_85 rfl ?_
          refine g_dup2 C dX1_passOn_87 rfl rfl ?_
          obtain ⟨x_76, hx_76, rx_76⟩ := ex_any (z0 := I_60 b_1 (v_11.toNatClampNeg))
          refine h_iald C K hb_1L hb_1k (v := x_76) (v_11.toNatClampNeg) (rfl) (ix_0 r_45 (by decide)) (ix_lt r_45 (by decide) hb_1n (by decide)) hx_76 dX1_passOn_88 ?_
          refine g_iload C 2 dX1_passOn_89 rfl ?_
          refine g_iload C 1 dX1_passOn_91 rfl ?_
          obtain ⟨x_77, hx_77, rx_77⟩ := ex_any (z0 := x_47 - x_51)
          refine g_isub C (v := x_77) dX1_passOn_93 hx_77 ?_
          obtain ⟨x_78, hx_78, rx_78⟩ := ex_any (z0 := x_76 + x_77)
          refine g_iadd C (v := x_78) dX1_passOn_94 hx_78 ?_
          refine h_iast C K hb_1L hb_1k (v_11.toNatClampNeg) (rfl) (ix_0 r_45 (by decide)) (ix_lt r_45 (by decide) hb_1n (by decide)) dX1_passOn_95 (fun I_79 hI_79 => ?_)
          have hU_80 := iv_put W9 hUI_60 hI_79 (ro_a hb_1k (by decide) hb_1o hkx rfl) (lo := (-2147483648)) (hi := 2147483647) (rfl) (rx_78) rfl
          have hF_81 := fq_puta hF_63 hI_79 (ro_a hb_1k (by decide) hb_1o hkx rfl) (by decide) (by decide)
          refine g_goto C (tgt := 111) dX1_passOn_96 (by decide) ?_
          refine g_lo (is := [3, 4, 5, 0, 6, 2, 1]) (lo2 := [(0, .ref x), (1, .int v_8), (2, .int v_9), (3, .int x_52), (4, .int v_11), (5, .int x_47), (6, .int x_51)]) rfl ?_
          exact j_111 I_79 J_61 hU_80 hF_81 hG_64 v_8 (rv_8) v_9 (rg_w r_75 (by decide) (by decide)) x_52 v_11 (r_45) x_47 x_51 x_54 v_12 x_38 (r_46) v_13 (kp_k (κ := κ) hI_79 (by rw [hkx, hb_1k]; decide) (fq_at hFI_60 hLx hkx (by decide) (by decide) (kp_s hI_55))) (kp_k (κ := κ) hI_79 (by rw [hkx, hb_1k]; decide) (fq_at hFI_60 hLx hkx (by decide) (by decide) (kp_j hI_55 (by decide) q_14))) (kp_k (κ := κ) hI_79 (by rw [hb_2k, hb_1k]; decide) (fq_at hFI_60 hb_2L hb_2k (by decide) (by decide) (kp_k (κ := κ) hI_55 (by rw [hb_2k, hkx]; decide) hx_38))) (kp_k (κ := κ) hI_79 (by rw [hb_2k, hb_1k]; decide) (fq_at hFI_60 hb_2L hb_2k (by decide) (by decide) (kp_k (κ := κ) hI_55 (by rw [hb_2k, hkx]; decide) q_15))) hm_16
  refine g_aload_n C 0 dX1_passOn_0 rfl rfl ?_
  refine g_iload_n C 1 dX1_passOn_1 rfl rfl ?_
  refine g_aload_n C 0 dX1_passOn_2 rfl rfl ?_
  obtain ⟨x_82, hx_82, rx_82⟩ := ex_get (I := I) (a := x) (j := 8) (lo := (-2147483648)) (hi := 2147483647) hU.1 hLx (ro_o hkx (by decide)) rfl
  refine g_getI C K hLx hkx f_1_34 (v := x_82) hx_82 dX1_passOn_3 ?_
  refine g_callVI C K (c_X1_heirOf W9 hLx hkx a0 x_82 (ra0) hU) hLx hkx (by decide) rfl v_1_91 rfl ⟨rfl, rfl⟩ ⟨Nat.le_of_ble_eq_true rfl, Nat.le_of_ble_eq_true rfl⟩ (Nat.le_of_ble_eq_true rfl) ⟨Nat.le_of_ble_eq_true rfl, Nat.le_of_ble_eq_true rfl⟩ dX1_passOn_6 rfl (st := []) (fun x_83 I_84 J_85 h_86 => ?_)
  obtain ⟨rfl, rfl, rx_83⟩ := h_86
  refine g_istore_n C dX1_passOn_9 rfl (by decide) (lo2 := [(2, .int x_83), (0, .ref x), (1, .int a0)]) rfl ?_
  refine g_aload_n C 1 dX1_passOn_10 rfl rfl ?_
  refine g_getR C K hLx hkx f_1_52 hb_2 dX1_passOn_11 ?_
  obtain ⟨x_87, hx_87, rx_87⟩ := ex_get (I := I) (a := b_2) (j := 8) (lo := (-2147483648)) (hi := 2147483647) hU.1 hb_2L (ro_o hb_2k (by decide)) rfl
  refine g_getI C K hb_2L hb_2k f_1_94 (v := x_87) hx_87 dX1_passOn_14 ?_
  refine g_istore_n C dX1_passOn_17 rfl (by decide) (lo2 := [(3, .int x_87), (2, .int x_83), (0, .ref x), (1, .int a0)]) rfl ?_
  refine g_iconst C (v := 0) dX1_passOn_18 (by decide) ?_
  refine g_istore C dX1_passOn_19 (by decide) (lo2 := [(4, .int 0), (3, .int x_87), (2, .int x_83), (0, .ref x), (1, .int a0)]) rfl ?_
  refine g_lo (is := [3, 4, 2, 1, 0]) (lo2 := [(0, .ref x), (1, .int a0), (2, .int x_83), (3, .int x_87), (4, .int 0)]) rfl ?_
  exact l_21 7 I J hU hF hG a0 (ra0) x_83 (rx_83) x_87 0 (rg_w rc_0 (by decide) (by decide)) x_82 x_87 hx_82 hx_87 (ms_s (a := 0) (b := 6) (N := 7) (rg_w rc_0 (by decide) (by decide)) (by decide))
set_option maxRecDepth 100000 in
set_option maxHeartbeats 8000000 in
theorem c_X1_tryToRise {l : Launch} {D : va_G} {cy : Nat → ClassId} {L : List Nat} {κ ln : Nat → Nat} {R : Nat → Nat → Option Nat} {I : Nat → Nat → Int32} {J : Nat → Nat → Int64} {ow : Nat → Nat × Nat} (W9 : ∀ a ∈ L, Shp L κ ln R ow a) {x : Nat} (hLx : x ∈ L) (hkx : κ x = 1) (a0 : Int32) (ra0 : Rg 0 6 a0) (hU : Iv L κ R ow I) : CtI l yX1_tryToRise cX1_tryToRise 2 (some .int) { frames := 3, cells := 0, slots := 0, locals := 86 } D cy L κ ln R I J [.ref x, .int a0] (fun r I2 J2 => Iv L κ R ow I2 ∧ Fq L κ ow [110, 112, 16100, 16200, 16300] I I2 ∧ Fq L κ ow [] J J2 ∧ Rg 0 2 r) := by
  refine CtI.of (by decide +kernel) (Nat.le_of_ble_eq_true rfl) ?_
  intro p e s m below meth c B K
  have C := B.1
  have hF : Fq L κ ow [110, 112, 16100, 16200, 16300] I I := fq_rf
  have hG : Fq L κ ow [] J J := fq_rf
  obtain ⟨b_1, hb_1, hb_1L, hb_1k, hb_1n, hb_1o⟩ := shp_a (W9 x hLx) hkx 3 14 7 rfl (by decide)
  refine g_lo (is := [0, 1]) (lo2 := [(0, .ref x), (1, .int a0)]) rfl ?_
  refine g_aload_n C 0 dX1_tryToRise_0 rfl rfl ?_
  refine g_iload_n C 1 dX1_tryToRise_1 rfl rfl ?_
  refine g_callVI C K (c_X1_lives W9 hLx hkx a0 (ra0) hU) hLx hkx (by decide) rfl v_1_115 rfl ⟨rfl, rfl⟩ ⟨Nat.le_of_ble_eq_true rfl, Nat.le_of_ble_eq_true rfl⟩ (Nat.le_of_ble_eq_true rfl) ⟨Nat.le_of_ble_eq_true rfl, Nat.le_of_ble_eq_true rfl⟩ dX1_tryToRise_2 rfl (st := []) (fun x_2 I_3 J_4 h_5 => ?_)
  obtain ⟨rfl, rfl, rx_2⟩ := h_5
  refine g_if_ne C (tgt := 10) dX1_tryToRise_5 (by decide) (fun h_6 => ?_) (fun h_6 => ?_)
  · skip
    have n_7 : ¬ x_2 = 0 := h_6
    have r_8 := ne_lo (lo := 1) n_7 rx_2 rc_0 rfl (by decide)
    refine g_aload_n C 0 dX1_tryToRise_10 rfl rfl ?_
    refine g_getR C K hLx hkx f_1_18 hb_1 dX1_tryToRise_11 ?_
    refine g_iload_n C 1 dX1_tryToRise_14 rfl rfl ?_
    obtain ⟨x_9, hx_9, rx_9⟩ := ex_any (z0 := I b_1 (a0.toNatClampNeg))
    refine h_iald C K hb_1L hb_1k (v := x_9) (a0.toNatClampNeg) (rfl) (ix_0 ra0 (by decide)) (ix_lt ra0 (by decide) hb_1n (by decide)) hx_9 dX1_tryToRise_15 ?_
    refine g_if_ne C (tgt := 21) dX1_tryToRise_16 (by decide) (fun h_10 => ?_) (fun h_10 => ?_)
    · skip
      have n_11 : ¬ x_9 = 0 := h_10
      refine g_aload_n C 0 dX1_tryToRise_21 rfl rfl ?_
      refine g_iload_n C 1 dX1_tryToRise_22 rfl rfl ?_
      refine g_callVV C K (c_X1_passOn W9 hLx hkx a0 (ra0) hU) hLx hkx (by decide) rfl v_1_119 rfl ⟨rfl, rfl⟩ ⟨Nat.le_of_ble_eq_true rfl, Nat.le_of_ble_eq_true rfl⟩ (Nat.le_of_ble_eq_true rfl) ⟨Nat.le_of_ble_eq_true rfl, Nat.le_of_ble_eq_true rfl⟩ dX1_tryToRise_23 rfl (st := []) (fun I_13 J_14 h_15 => ?_)
      obtain ⟨hUI_13, hFI_13, hGJ_14⟩ := h_15
      have hF_16 := fq_tr hF hFI_13 (by decide)
      have hG_17 := fq_tr hG hGJ_14 (by decide)
      refine g_iconst C (v := 0) dX1_tryToRise_26 (by decide) ?_
      exact g_zret (ty := .int) (r := 0) B K rfl (rfl) ⟨hUI_13, hF_16, hG_17, rg_w rc_0 (by decide) (by decide)⟩ dX1_tryToRise_27
    · skip
      have r_18 := (⟨(eq_rg (h_10) rc_0).1, (eq_rg (h_10) rc_0).2⟩ : Rg 0 0 x_9)
      refine g_iconst C (v := 2) dX1_tryToRise_19 (by decide) ?_
      exact g_zret (ty := .int) (r := 2) B K rfl (rfl) ⟨hU, hF, hG, rg_w rc_2 (by decide) (by decide)⟩ dX1_tryToRise_20
  · skip
    have r_19 := (⟨(rx_2).1, (eq_rg (h_6) rc_0).2⟩ : Rg 0 0 x_2)
    refine g_iconst C (v := 1) dX1_tryToRise_8 (by decide) ?_
    exact g_zret (ty := .int) (r := 1) B K rfl (rfl) ⟨hU, hF, hG, rg_w rc_1 (by decide) (by decide)⟩ dX1_tryToRise_9
set_option maxRecDepth 100000 in
set_option maxHeartbeats 8000000 in
theorem c_X11_rise {l : Launch} {D : va_G} {cy : Nat → ClassId} {L : List Nat} {κ ln : Nat → Nat} {R : Nat → Nat → Option Nat} {I : Nat → Nat → Int32} {J : Nat → Nat → Int64} {ow : Nat → Nat × Nat} (W9 : ∀ a ∈ L, Shp L κ ln R ow a) {x : Nat} (hLx : x ∈ L) (hkx : κ x = 11) (a0 : Int32) (hU : Iv L κ R ow I) : CtI l yX11_rise cX11_rise 2 (some .int) { frames := 4, cells := 0, slots := 0, locals := 107 } D cy L κ ln R I J [.ref x, .int a0] (fun r I2 J2 => Iv L κ R ow I2 ∧ Fq L κ ow [107, 108, 109, 110, 111, 112, 501, 502, 16100, 16200, 16300, 16400, 16500, 16600] I I2 ∧ Fq L κ ow [] J J2 ∧ Rg (-1) 3 r) := by
  refine CtI.of (by decide +kernel) (Nat.le_of_ble_eq_true rfl) ?_
  intro p e s m below meth c B K
  have C := B.1
  have hF : Fq L κ ow [107, 108, 109, 110, 111, 112, 501, 502, 16100, 16200, 16300, 16400, 16500, 16600] I I := fq_rf
  have hG : Fq L κ ow [] J J := fq_rf
  obtain ⟨b_1, hb_1, hb_1L, hb_1k⟩ := shp_o (W9 x hLx) hkx 4 5 rfl (by decide)
  obtain ⟨b_2, hb_2, hb_2L, hb_2k⟩ := shp_o (W9 x hLx) hkx 1 8 rfl (by decide)
  obtain ⟨b_3, hb_3, hb_3L, hb_3k⟩ := shp_o (W9 x hLx) hkx 2 1 rfl (by decide)
  refine g_lo (is := [0, 1]) (lo2 := [(0, .ref x), (1, .int a0)]) rfl ?_
  refine g_aload_n C 0 dX11_rise_0 rfl rfl ?_
  refine g_getR C K hLx hkx f_11_19 hb_2 dX11_rise_1 ?_
  refine g_iload_n C 1 dX11_rise_4 rfl rfl ?_
  refine g_callVI C K (c_X8_hasPerson W9 hb_2L hb_2k a0  hU) hb_2L hb_2k (by decide) rfl v_11_133 rfl ⟨rfl, rfl⟩ ⟨Nat.le_of_ble_eq_true rfl, Nat.le_of_ble_eq_true rfl⟩ (Nat.le_of_ble_eq_true rfl) ⟨Nat.le_of_ble_eq_true rfl, Nat.le_of_ble_eq_true rfl⟩ dX11_rise_5 rfl (st := []) (fun x_4 I_5 J_6 h_7 => ?_)
  obtain ⟨rfl, rfl, rx_4, ex_4⟩ := h_7
  refine g_if_ne C (tgt := 13) dX11_rise_8 (by decide) (fun h_8 => ?_) (fun h_8 => ?_)
  · skip
    have n_9 : ¬ x_4 = 0 := h_8
    have r_10 := ne_lo (lo := 1) n_9 rx_4 rc_0 rfl (by decide)
    have r_11 := rg_i (rg_all a0) ((ex_4) n_9) (lo := 0) (hi := 6) (by decide) (by decide)
    refine g_aload_n C 0 dX11_rise_13 rfl rfl ?_
    refine g_getR C K hLx hkx f_11_38 hb_1 dX11_rise_14 ?_
    refine g_aload_n C 0 dX11_rise_17 rfl rfl ?_
    refine g_getR C K hLx hkx f_11_28 hb_3 dX11_rise_18 ?_
    refine g_callVV C K (c_X5_note W9 hb_1L hb_1k hb_3L hb_3k  hU) hb_1L hb_1k (by decide) rfl v_11_225 rfl ⟨rfl, rfl⟩ ⟨Nat.le_of_ble_eq_true rfl, Nat.le_of_ble_eq_true rfl⟩ (Nat.le_of_ble_eq_true rfl) ⟨Nat.le_of_ble_eq_true rfl, Nat.le_of_ble_eq_true rfl⟩ dX11_rise_21 rfl (st := []) (fun I_13 J_14 h_15 => ?_)
    obtain ⟨hUI_13, hFI_13, hGJ_14⟩ := h_15
    have hF_16 := fq_tr hF hFI_13 (by decide)
    have hG_17 := fq_tr hG hGJ_14 (by decide)
    refine g_aload_n C 0 dX11_rise_24 rfl rfl ?_
    refine g_aload_n C 0 dX11_rise_25 rfl rfl ?_
    refine g_getR C K hLx hkx f_11_28 hb_3 dX11_rise_26 ?_
    refine g_iload_n C 1 dX11_rise_29 rfl rfl ?_
    refine g_callVI C K (c_X1_tryToRise W9 hb_3L hb_3k a0 (r_11) hUI_13) hb_3L hb_3k (by decide) rfl v_11_238 rfl ⟨rfl, rfl⟩ ⟨Nat.le_of_ble_eq_true rfl, Nat.le_of_ble_eq_true rfl⟩ (Nat.le_of_ble_eq_true rfl) ⟨Nat.le_of_ble_eq_true rfl, Nat.le_of_ble_eq_true rfl⟩ dX11_rise_30 rfl (st := [.ref x]) (fun x_18 I_19 J_20 h_21 => ?_)
    obtain ⟨hUI_19, hFI_19, hGJ_20, rx_18⟩ := h_21
    have hF_22 := fq_tr hF_16 hFI_19 (by decide)
    have hG_23 := fq_tr hG_17 hGJ_20 (by decide)
    refine g_callVI C K (c_X11_keptIfDone W9 hLx hkx x_18 (rg_w rx_18 (by decide) (by decide)) hUI_19) hLx hkx (by decide) rfl v_11_232 rfl ⟨rfl, rfl⟩ ⟨Nat.le_of_ble_eq_true rfl, Nat.le_of_ble_eq_true rfl⟩ (Nat.le_of_ble_eq_true rfl) ⟨Nat.le_of_ble_eq_true rfl, Nat.le_of_ble_eq_true rfl⟩ dX11_rise_33 rfl (st := []) (fun x_24 I_25 J_26 h_27 => ?_)
    obtain ⟨hUI_25, hFI_25, hGJ_26, rx_24⟩ := h_27
    have hF_28 := fq_tr hF_22 hFI_25 (by decide)
    have hG_29 := fq_tr hG_23 hGJ_26 (by decide)
    exact g_zret (ty := .int) (r := x_24) B K rfl (rfl) ⟨hUI_25, hF_28, hG_29, rg_w rx_24 (by decide) (by decide)⟩ dX11_rise_36
  · skip
    have r_30 := (⟨(rx_4).1, (eq_rg (h_8) rc_0).2⟩ : Rg 0 0 x_4)
    refine g_iconst C (v := (-1)) dX11_rise_11 (by decide) ?_
    exact g_zret (ty := .int) (r := (-1)) B K rfl (rfl) ⟨hU, hF, hG, rg_w rc_m1 (by decide) (by decide)⟩ dX11_rise_12
set_option maxRecDepth 100000 in
set_option maxHeartbeats 8000000 in
theorem c_X1_tryToRefuse {l : Launch} {D : va_G} {cy : Nat → ClassId} {L : List Nat} {κ ln : Nat → Nat} {R : Nat → Nat → Option Nat} {I : Nat → Nat → Int32} {J : Nat → Nat → Int64} {ow : Nat → Nat × Nat} (W9 : ∀ a ∈ L, Shp L κ ln R ow a) {x : Nat} (hLx : x ∈ L) (hkx : κ x = 1) (a0 : Int32) (ra0 : Rg 0 6 a0) (hU : Iv L κ R ow I) : CtI l yX1_tryToRefuse cX1_tryToRefuse 2 (some .int) { frames := 1, cells := 0, slots := 0, locals := 21 } D cy L κ ln R I J [.ref x, .int a0] (fun r I2 J2 => Iv L κ R ow I2 ∧ Fq L κ ow [108] I I2 ∧ Fq L κ ow [] J J2 ∧ Rg 0 2 r) := by
  refine CtI.of (by decide +kernel) (Nat.le_of_ble_eq_true rfl) ?_
  intro p e s m below meth c B K
  have C := B.1
  have hF : Fq L κ ow [108] I I := fq_rf
  have hG : Fq L κ ow [] J J := fq_rf
  refine g_lo (is := [0, 1]) (lo2 := [(0, .ref x), (1, .int a0)]) rfl ?_
  refine g_aload_n C 0 dX1_tryToRefuse_0 rfl rfl ?_
  refine g_iload_n C 1 dX1_tryToRefuse_1 rfl rfl ?_
  refine g_callVI C K (c_X1_lives W9 hLx hkx a0 (ra0) hU) hLx hkx (by decide) rfl v_1_115 rfl ⟨rfl, rfl⟩ ⟨Nat.le_of_ble_eq_true rfl, Nat.le_of_ble_eq_true rfl⟩ (Nat.le_of_ble_eq_true rfl) ⟨Nat.le_of_ble_eq_true rfl, Nat.le_of_ble_eq_true rfl⟩ dX1_tryToRefuse_2 rfl (st := []) (fun x_1 I_2 J_3 h_4 => ?_)
  obtain ⟨rfl, rfl, rx_1⟩ := h_4
  refine g_if_ne C (tgt := 10) dX1_tryToRefuse_5 (by decide) (fun h_5 => ?_) (fun h_5 => ?_)
  · skip
    have n_6 : ¬ x_1 = 0 := h_5
    have r_7 := ne_lo (lo := 1) n_6 rx_1 rc_0 rfl (by decide)
    refine g_aload_n C 0 dX1_tryToRefuse_10 rfl rfl ?_
    obtain ⟨x_8, hx_8, rx_8⟩ := ex_get (I := I) (a := x) (j := 8) (lo := (-2147483648)) (hi := 2147483647) hU.1 hLx (ro_o hkx (by decide)) rfl
    refine g_getI C K hLx hkx f_1_34 (v := x_8) hx_8 dX1_tryToRefuse_11 ?_
    refine g_iload_n C 1 dX1_tryToRefuse_14 rfl rfl ?_
    obtain ⟨x_9, hx_9, rx_9⟩ := ex_any (z0 := x_8 >>> (a0 &&& 31))
    refine g_ishr C (v := x_9) dX1_tryToRefuse_15 hx_9 ?_
    refine g_iconst C (v := 1) dX1_tryToRefuse_16 (by decide) ?_
    obtain ⟨x_10, hx_10, rx_10⟩ := ex_andr (x := x_9) (y := 1) (b := 1) (rg_w rc_1 (by decide) (by decide))
    refine g_iand C (v := x_10) dX1_tryToRefuse_17 hx_10 ?_
    refine g_if_eq C (tgt := 23) dX1_tryToRefuse_18 (by decide) (fun h_11 => ?_) (fun h_11 => ?_)
    · skip
      have r_12 := (⟨(rx_10).1, (eq_rg (h_11) rc_0).2⟩ : Rg 0 0 x_10)
      refine g_aload_n C 0 dX1_tryToRefuse_23 rfl rfl ?_
      refine g_dup C dX1_tryToRefuse_24 rfl ?_
      refine g_getI C K hLx hkx f_1_34 (v := x_8) hx_8 dX1_tryToRefuse_25 ?_
      refine g_iconst C (v := 1) dX1_tryToRefuse_28 (by decide) ?_
      refine g_iload_n C 1 dX1_tryToRefuse_29 rfl rfl ?_
      obtain ⟨x_13, hx_13, rx_13⟩ := ex_shl (x := 1) (y := a0) 6 64 rfl (ra0) (by decide)
      refine g_ishl C (v := x_13) dX1_tryToRefuse_30 hx_13 ?_
      obtain ⟨x_14, hx_14, rx_14⟩ := ex_any (z0 := x_8 ||| x_13)
      refine g_ior C (v := x_14) dX1_tryToRefuse_31 hx_14 ?_
      refine h_putI C K hLx hkx f_1_34 p_1_8 dX1_tryToRefuse_32 (fun I_15 hI_15 => ?_)
      have hU_16 := iv_put W9 hU hI_15 (ro_o hkx (by decide)) (lo := (-2147483648)) (hi := 2147483647) (rfl) (rx_14) rfl
      have hF_17 := fq_puto hF hI_15 hkx (by decide) (by decide)
      refine g_iconst C (v := 0) dX1_tryToRefuse_35 (by decide) ?_
      exact g_zret (ty := .int) (r := 0) B K rfl (rfl) ⟨hU_16, hF_17, hG, rg_w rc_0 (by decide) (by decide)⟩ dX1_tryToRefuse_36
    · skip
      have n_18 : ¬ x_10 = 0 := h_11
      have r_19 := ne_lo (lo := 1) n_18 rx_10 rc_0 rfl (by decide)
      refine g_iconst C (v := 2) dX1_tryToRefuse_21 (by decide) ?_
      exact g_zret (ty := .int) (r := 2) B K rfl (rfl) ⟨hU, hF, hG, rg_w rc_2 (by decide) (by decide)⟩ dX1_tryToRefuse_22
  · skip
    have r_20 := (⟨(rx_1).1, (eq_rg (h_5) rc_0).2⟩ : Rg 0 0 x_1)
    refine g_iconst C (v := 1) dX1_tryToRefuse_8 (by decide) ?_
    exact g_zret (ty := .int) (r := 1) B K rfl (rfl) ⟨hU, hF, hG, rg_w rc_1 (by decide) (by decide)⟩ dX1_tryToRefuse_9
set_option maxRecDepth 100000 in
set_option maxHeartbeats 8000000 in
theorem c_X11_refuse {l : Launch} {D : va_G} {cy : Nat → ClassId} {L : List Nat} {κ ln : Nat → Nat} {R : Nat → Nat → Option Nat} {I : Nat → Nat → Int32} {J : Nat → Nat → Int64} {ow : Nat → Nat × Nat} (W9 : ∀ a ∈ L, Shp L κ ln R ow a) {x : Nat} (hLx : x ∈ L) (hkx : κ x = 11) (a0 : Int32) (hU : Iv L κ R ow I) : CtI l yX11_refuse cX11_refuse 2 (some .int) { frames := 3, cells := 0, slots := 0, locals := 102 } D cy L κ ln R I J [.ref x, .int a0] (fun r I2 J2 => Iv L κ R ow I2 ∧ Fq L κ ow [107, 108, 109, 110, 111, 112, 501, 502, 16100, 16200, 16300, 16400, 16500, 16600] I I2 ∧ Fq L κ ow [] J J2 ∧ Rg (-1) 3 r) := by
  refine CtI.of (by decide +kernel) (Nat.le_of_ble_eq_true rfl) ?_
  intro p e s m below meth c B K
  have C := B.1
  have hF : Fq L κ ow [107, 108, 109, 110, 111, 112, 501, 502, 16100, 16200, 16300, 16400, 16500, 16600] I I := fq_rf
  have hG : Fq L κ ow [] J J := fq_rf
  obtain ⟨b_1, hb_1, hb_1L, hb_1k⟩ := shp_o (W9 x hLx) hkx 4 5 rfl (by decide)
  obtain ⟨b_2, hb_2, hb_2L, hb_2k⟩ := shp_o (W9 x hLx) hkx 1 8 rfl (by decide)
  obtain ⟨b_3, hb_3, hb_3L, hb_3k⟩ := shp_o (W9 x hLx) hkx 2 1 rfl (by decide)
  refine g_lo (is := [0, 1]) (lo2 := [(0, .ref x), (1, .int a0)]) rfl ?_
  refine g_aload_n C 0 dX11_refuse_0 rfl rfl ?_
  refine g_getR C K hLx hkx f_11_19 hb_2 dX11_refuse_1 ?_
  refine g_iload_n C 1 dX11_refuse_4 rfl rfl ?_
  refine g_callVI C K (c_X8_hasPerson W9 hb_2L hb_2k a0  hU) hb_2L hb_2k (by decide) rfl v_11_133 rfl ⟨rfl, rfl⟩ ⟨Nat.le_of_ble_eq_true rfl, Nat.le_of_ble_eq_true rfl⟩ (Nat.le_of_ble_eq_true rfl) ⟨Nat.le_of_ble_eq_true rfl, Nat.le_of_ble_eq_true rfl⟩ dX11_refuse_5 rfl (st := []) (fun x_4 I_5 J_6 h_7 => ?_)
  obtain ⟨rfl, rfl, rx_4, ex_4⟩ := h_7
  refine g_if_ne C (tgt := 13) dX11_refuse_8 (by decide) (fun h_8 => ?_) (fun h_8 => ?_)
  · skip
    have n_9 : ¬ x_4 = 0 := h_8
    have r_10 := ne_lo (lo := 1) n_9 rx_4 rc_0 rfl (by decide)
    have r_11 := rg_i (rg_all a0) ((ex_4) n_9) (lo := 0) (hi := 6) (by decide) (by decide)
    refine g_aload_n C 0 dX11_refuse_13 rfl rfl ?_
    refine g_getR C K hLx hkx f_11_38 hb_1 dX11_refuse_14 ?_
    refine g_aload_n C 0 dX11_refuse_17 rfl rfl ?_
    refine g_getR C K hLx hkx f_11_28 hb_3 dX11_refuse_18 ?_
    refine g_callVV C K (c_X5_note W9 hb_1L hb_1k hb_3L hb_3k  hU) hb_1L hb_1k (by decide) rfl v_11_225 rfl ⟨rfl, rfl⟩ ⟨Nat.le_of_ble_eq_true rfl, Nat.le_of_ble_eq_true rfl⟩ (Nat.le_of_ble_eq_true rfl) ⟨Nat.le_of_ble_eq_true rfl, Nat.le_of_ble_eq_true rfl⟩ dX11_refuse_21 rfl (st := []) (fun I_13 J_14 h_15 => ?_)
    obtain ⟨hUI_13, hFI_13, hGJ_14⟩ := h_15
    have hF_16 := fq_tr hF hFI_13 (by decide)
    have hG_17 := fq_tr hG hGJ_14 (by decide)
    refine g_aload_n C 0 dX11_refuse_24 rfl rfl ?_
    refine g_aload_n C 0 dX11_refuse_25 rfl rfl ?_
    refine g_getR C K hLx hkx f_11_28 hb_3 dX11_refuse_26 ?_
    refine g_iload_n C 1 dX11_refuse_29 rfl rfl ?_
    refine g_callVI C K (c_X1_tryToRefuse W9 hb_3L hb_3k a0 (r_11) hUI_13) hb_3L hb_3k (by decide) rfl v_11_241 rfl ⟨rfl, rfl⟩ ⟨Nat.le_of_ble_eq_true rfl, Nat.le_of_ble_eq_true rfl⟩ (Nat.le_of_ble_eq_true rfl) ⟨Nat.le_of_ble_eq_true rfl, Nat.le_of_ble_eq_true rfl⟩ dX11_refuse_30 rfl (st := [.ref x]) (fun x_18 I_19 J_20 h_21 => ?_)
    obtain ⟨hUI_19, hFI_19, hGJ_20, rx_18⟩ := h_21
    have hF_22 := fq_tr hF_16 hFI_19 (by decide)
    have hG_23 := fq_tr hG_17 hGJ_20 (by decide)
    refine g_callVI C K (c_X11_keptIfDone W9 hLx hkx x_18 (rg_w rx_18 (by decide) (by decide)) hUI_19) hLx hkx (by decide) rfl v_11_232 rfl ⟨rfl, rfl⟩ ⟨Nat.le_of_ble_eq_true rfl, Nat.le_of_ble_eq_true rfl⟩ (Nat.le_of_ble_eq_true rfl) ⟨Nat.le_of_ble_eq_true rfl, Nat.le_of_ble_eq_true rfl⟩ dX11_refuse_33 rfl (st := []) (fun x_24 I_25 J_26 h_27 => ?_)
    obtain ⟨hUI_25, hFI_25, hGJ_26, rx_24⟩ := h_27
    have hF_28 := fq_tr hF_22 hFI_25 (by decide)
    have hG_29 := fq_tr hG_23 hGJ_26 (by decide)
    exact g_zret (ty := .int) (r := x_24) B K rfl (rfl) ⟨hUI_25, hF_28, hG_29, rg_w rx_24 (by decide) (by decide)⟩ dX11_refuse_36
  · skip
    have r_30 := (⟨(rx_4).1, (eq_rg (h_8) rc_0).2⟩ : Rg 0 0 x_4)
    refine g_iconst C (v := (-1)) dX11_refuse_11 (by decide) ?_
    exact g_zret (ty := .int) (r := (-1)) B K rfl (rfl) ⟨hU, hF, hG, rg_w rc_m1 (by decide) (by decide)⟩ dX11_refuse_12
set_option maxRecDepth 100000 in
set_option maxHeartbeats 8000000 in
theorem c_X1_tryToAccept {l : Launch} {D : va_G} {cy : Nat → ClassId} {L : List Nat} {κ ln : Nat → Nat} {R : Nat → Nat → Option Nat} {I : Nat → Nat → Int32} {J : Nat → Nat → Int64} {ow : Nat → Nat × Nat} (W9 : ∀ a ∈ L, Shp L κ ln R ow a) {x : Nat} (hLx : x ∈ L) (hkx : κ x = 1) (a0 : Int32) (ra0 : Rg 0 6 a0) (hU : Iv L κ R ow I) : CtI l yX1_tryToAccept cX1_tryToAccept 2 (some .int) { frames := 1, cells := 0, slots := 0, locals := 21 } D cy L κ ln R I J [.ref x, .int a0] (fun r I2 J2 => Iv L κ R ow I2 ∧ Fq L κ ow [108] I I2 ∧ Fq L κ ow [] J J2 ∧ Rg 0 2 r) := by
  refine CtI.of (by decide +kernel) (Nat.le_of_ble_eq_true rfl) ?_
  intro p e s m below meth c B K
  have C := B.1
  have hF : Fq L κ ow [108] I I := fq_rf
  have hG : Fq L κ ow [] J J := fq_rf
  refine g_lo (is := [0, 1]) (lo2 := [(0, .ref x), (1, .int a0)]) rfl ?_
  refine g_aload_n C 0 dX1_tryToAccept_0 rfl rfl ?_
  refine g_iload_n C 1 dX1_tryToAccept_1 rfl rfl ?_
  refine g_callVI C K (c_X1_lives W9 hLx hkx a0 (ra0) hU) hLx hkx (by decide) rfl v_1_115 rfl ⟨rfl, rfl⟩ ⟨Nat.le_of_ble_eq_true rfl, Nat.le_of_ble_eq_true rfl⟩ (Nat.le_of_ble_eq_true rfl) ⟨Nat.le_of_ble_eq_true rfl, Nat.le_of_ble_eq_true rfl⟩ dX1_tryToAccept_2 rfl (st := []) (fun x_1 I_2 J_3 h_4 => ?_)
  obtain ⟨rfl, rfl, rx_1⟩ := h_4
  refine g_if_ne C (tgt := 10) dX1_tryToAccept_5 (by decide) (fun h_5 => ?_) (fun h_5 => ?_)
  · skip
    have n_6 : ¬ x_1 = 0 := h_5
    have r_7 := ne_lo (lo := 1) n_6 rx_1 rc_0 rfl (by decide)
    refine g_aload_n C 0 dX1_tryToAccept_10 rfl rfl ?_
    obtain ⟨x_8, hx_8, rx_8⟩ := ex_get (I := I) (a := x) (j := 8) (lo := (-2147483648)) (hi := 2147483647) hU.1 hLx (ro_o hkx (by decide)) rfl
    refine g_getI C K hLx hkx f_1_34 (v := x_8) hx_8 dX1_tryToAccept_11 ?_
    refine g_iload_n C 1 dX1_tryToAccept_14 rfl rfl ?_
    obtain ⟨x_9, hx_9, rx_9⟩ := ex_any (z0 := x_8 >>> (a0 &&& 31))
    refine g_ishr C (v := x_9) dX1_tryToAccept_15 hx_9 ?_
    refine g_iconst C (v := 1) dX1_tryToAccept_16 (by decide) ?_
    obtain ⟨x_10, hx_10, rx_10⟩ := ex_andr (x := x_9) (y := 1) (b := 1) (rg_w rc_1 (by decide) (by decide))
    refine g_iand C (v := x_10) dX1_tryToAccept_17 hx_10 ?_
    refine g_if_ne C (tgt := 23) dX1_tryToAccept_18 (by decide) (fun h_11 => ?_) (fun h_11 => ?_)
    · skip
      have n_12 : ¬ x_10 = 0 := h_11
      have r_13 := ne_lo (lo := 1) n_12 rx_10 rc_0 rfl (by decide)
      refine g_aload_n C 0 dX1_tryToAccept_23 rfl rfl ?_
      refine g_dup C dX1_tryToAccept_24 rfl ?_
      refine g_getI C K hLx hkx f_1_34 (v := x_8) hx_8 dX1_tryToAccept_25 ?_
      refine g_iconst C (v := 1) dX1_tryToAccept_28 (by decide) ?_
      refine g_iload_n C 1 dX1_tryToAccept_29 rfl rfl ?_
      obtain ⟨x_14, hx_14, rx_14⟩ := ex_shl (x := 1) (y := a0) 6 64 rfl (ra0) (by decide)
      refine g_ishl C (v := x_14) dX1_tryToAccept_30 hx_14 ?_
      refine g_iconst C (v := (-1)) dX1_tryToAccept_31 (by decide) ?_
      obtain ⟨x_15, hx_15, rx_15⟩ := ex_any (z0 := x_14 ^^^ (-1))
      refine g_ixor C (v := x_15) dX1_tryToAccept_32 hx_15 ?_
      obtain ⟨x_16, hx_16, rx_16⟩ := ex_any (z0 := x_8 &&& x_15)
      refine g_iand C (v := x_16) dX1_tryToAccept_33 hx_16 ?_
      refine h_putI C K hLx hkx f_1_34 p_1_8 dX1_tryToAccept_34 (fun I_17 hI_17 => ?_)
      have hU_18 := iv_put W9 hU hI_17 (ro_o hkx (by decide)) (lo := (-2147483648)) (hi := 2147483647) (rfl) (rx_16) rfl
      have hF_19 := fq_puto hF hI_17 hkx (by decide) (by decide)
      refine g_iconst C (v := 0) dX1_tryToAccept_37 (by decide) ?_
      exact g_zret (ty := .int) (r := 0) B K rfl (rfl) ⟨hU_18, hF_19, hG, rg_w rc_0 (by decide) (by decide)⟩ dX1_tryToAccept_38
    · skip
      have r_20 := (⟨(rx_10).1, (eq_rg (h_11) rc_0).2⟩ : Rg 0 0 x_10)
      refine g_iconst C (v := 2) dX1_tryToAccept_21 (by decide) ?_
      exact g_zret (ty := .int) (r := 2) B K rfl (rfl) ⟨hU, hF, hG, rg_w rc_2 (by decide) (by decide)⟩ dX1_tryToAccept_22
  · skip
    have r_21 := (⟨(rx_1).1, (eq_rg (h_5) rc_0).2⟩ : Rg 0 0 x_1)
    refine g_iconst C (v := 1) dX1_tryToAccept_8 (by decide) ?_
    exact g_zret (ty := .int) (r := 1) B K rfl (rfl) ⟨hU, hF, hG, rg_w rc_1 (by decide) (by decide)⟩ dX1_tryToAccept_9
set_option maxRecDepth 100000 in
set_option maxHeartbeats 8000000 in
theorem c_X11_accept {l : Launch} {D : va_G} {cy : Nat → ClassId} {L : List Nat} {κ ln : Nat → Nat} {R : Nat → Nat → Option Nat} {I : Nat → Nat → Int32} {J : Nat → Nat → Int64} {ow : Nat → Nat × Nat} (W9 : ∀ a ∈ L, Shp L κ ln R ow a) {x : Nat} (hLx : x ∈ L) (hkx : κ x = 11) (a0 : Int32) (hU : Iv L κ R ow I) : CtI l yX11_accept cX11_accept 2 (some .int) { frames := 3, cells := 0, slots := 0, locals := 102 } D cy L κ ln R I J [.ref x, .int a0] (fun r I2 J2 => Iv L κ R ow I2 ∧ Fq L κ ow [107, 108, 109, 110, 111, 112, 501, 502, 16100, 16200, 16300, 16400, 16500, 16600] I I2 ∧ Fq L κ ow [] J J2 ∧ Rg (-1) 3 r) := by
  refine CtI.of (by decide +kernel) (Nat.le_of_ble_eq_true rfl) ?_
  intro p e s m below meth c B K
  have C := B.1
  have hF : Fq L κ ow [107, 108, 109, 110, 111, 112, 501, 502, 16100, 16200, 16300, 16400, 16500, 16600] I I := fq_rf
  have hG : Fq L κ ow [] J J := fq_rf
  obtain ⟨b_1, hb_1, hb_1L, hb_1k⟩ := shp_o (W9 x hLx) hkx 4 5 rfl (by decide)
  obtain ⟨b_2, hb_2, hb_2L, hb_2k⟩ := shp_o (W9 x hLx) hkx 1 8 rfl (by decide)
  obtain ⟨b_3, hb_3, hb_3L, hb_3k⟩ := shp_o (W9 x hLx) hkx 2 1 rfl (by decide)
  refine g_lo (is := [0, 1]) (lo2 := [(0, .ref x), (1, .int a0)]) rfl ?_
  refine g_aload_n C 0 dX11_accept_0 rfl rfl ?_
  refine g_getR C K hLx hkx f_11_19 hb_2 dX11_accept_1 ?_
  refine g_iload_n C 1 dX11_accept_4 rfl rfl ?_
  refine g_callVI C K (c_X8_hasPerson W9 hb_2L hb_2k a0  hU) hb_2L hb_2k (by decide) rfl v_11_133 rfl ⟨rfl, rfl⟩ ⟨Nat.le_of_ble_eq_true rfl, Nat.le_of_ble_eq_true rfl⟩ (Nat.le_of_ble_eq_true rfl) ⟨Nat.le_of_ble_eq_true rfl, Nat.le_of_ble_eq_true rfl⟩ dX11_accept_5 rfl (st := []) (fun x_4 I_5 J_6 h_7 => ?_)
  obtain ⟨rfl, rfl, rx_4, ex_4⟩ := h_7
  refine g_if_ne C (tgt := 13) dX11_accept_8 (by decide) (fun h_8 => ?_) (fun h_8 => ?_)
  · skip
    have n_9 : ¬ x_4 = 0 := h_8
    have r_10 := ne_lo (lo := 1) n_9 rx_4 rc_0 rfl (by decide)
    have r_11 := rg_i (rg_all a0) ((ex_4) n_9) (lo := 0) (hi := 6) (by decide) (by decide)
    refine g_aload_n C 0 dX11_accept_13 rfl rfl ?_
    refine g_getR C K hLx hkx f_11_38 hb_1 dX11_accept_14 ?_
    refine g_aload_n C 0 dX11_accept_17 rfl rfl ?_
    refine g_getR C K hLx hkx f_11_28 hb_3 dX11_accept_18 ?_
    refine g_callVV C K (c_X5_note W9 hb_1L hb_1k hb_3L hb_3k  hU) hb_1L hb_1k (by decide) rfl v_11_225 rfl ⟨rfl, rfl⟩ ⟨Nat.le_of_ble_eq_true rfl, Nat.le_of_ble_eq_true rfl⟩ (Nat.le_of_ble_eq_true rfl) ⟨Nat.le_of_ble_eq_true rfl, Nat.le_of_ble_eq_true rfl⟩ dX11_accept_21 rfl (st := []) (fun I_13 J_14 h_15 => ?_)
    obtain ⟨hUI_13, hFI_13, hGJ_14⟩ := h_15
    have hF_16 := fq_tr hF hFI_13 (by decide)
    have hG_17 := fq_tr hG hGJ_14 (by decide)
    refine g_aload_n C 0 dX11_accept_24 rfl rfl ?_
    refine g_aload_n C 0 dX11_accept_25 rfl rfl ?_
    refine g_getR C K hLx hkx f_11_28 hb_3 dX11_accept_26 ?_
    refine g_iload_n C 1 dX11_accept_29 rfl rfl ?_
    refine g_callVI C K (c_X1_tryToAccept W9 hb_3L hb_3k a0 (r_11) hUI_13) hb_3L hb_3k (by decide) rfl v_11_244 rfl ⟨rfl, rfl⟩ ⟨Nat.le_of_ble_eq_true rfl, Nat.le_of_ble_eq_true rfl⟩ (Nat.le_of_ble_eq_true rfl) ⟨Nat.le_of_ble_eq_true rfl, Nat.le_of_ble_eq_true rfl⟩ dX11_accept_30 rfl (st := [.ref x]) (fun x_18 I_19 J_20 h_21 => ?_)
    obtain ⟨hUI_19, hFI_19, hGJ_20, rx_18⟩ := h_21
    have hF_22 := fq_tr hF_16 hFI_19 (by decide)
    have hG_23 := fq_tr hG_17 hGJ_20 (by decide)
    refine g_callVI C K (c_X11_keptIfDone W9 hLx hkx x_18 (rg_w rx_18 (by decide) (by decide)) hUI_19) hLx hkx (by decide) rfl v_11_232 rfl ⟨rfl, rfl⟩ ⟨Nat.le_of_ble_eq_true rfl, Nat.le_of_ble_eq_true rfl⟩ (Nat.le_of_ble_eq_true rfl) ⟨Nat.le_of_ble_eq_true rfl, Nat.le_of_ble_eq_true rfl⟩ dX11_accept_33 rfl (st := []) (fun x_24 I_25 J_26 h_27 => ?_)
    obtain ⟨hUI_25, hFI_25, hGJ_26, rx_24⟩ := h_27
    have hF_28 := fq_tr hF_22 hFI_25 (by decide)
    have hG_29 := fq_tr hG_23 hGJ_26 (by decide)
    exact g_zret (ty := .int) (r := x_24) B K rfl (rfl) ⟨hUI_25, hF_28, hG_29, rg_w rx_24 (by decide) (by decide)⟩ dX11_accept_36
  · skip
    have r_30 := (⟨(rx_4).1, (eq_rg (h_8) rc_0).2⟩ : Rg 0 0 x_4)
    refine g_iconst C (v := (-1)) dX11_accept_11 (by decide) ?_
    exact g_zret (ty := .int) (r := (-1)) B K rfl (rfl) ⟨hU, hF, hG, rg_w rc_m1 (by decide) (by decide)⟩ dX11_accept_12
set_option maxRecDepth 100000 in
set_option maxHeartbeats 8000000 in
theorem c_X1_tryToDie {l : Launch} {D : va_G} {cy : Nat → ClassId} {L : List Nat} {κ ln : Nat → Nat} {R : Nat → Nat → Option Nat} {I : Nat → Nat → Int32} {J : Nat → Nat → Int64} {ow : Nat → Nat × Nat} (W9 : ∀ a ∈ L, Shp L κ ln R ow a) {x : Nat} (hLx : x ∈ L) (hkx : κ x = 1) (a0 : Int32) (ra0 : Rg 0 6 a0) (hU : Iv L κ R ow I) : CtI l yX1_tryToDie cX1_tryToDie 2 (some .int) { frames := 3, cells := 0, slots := 0, locals := 86 } D cy L κ ln R I J [.ref x, .int a0] (fun r I2 J2 => Iv L κ R ow I2 ∧ Fq L κ ow [107, 110, 112, 16100, 16200, 16300] I I2 ∧ Fq L κ ow [] J J2 ∧ Rg 0 1 r) := by
  refine CtI.of (by decide +kernel) (Nat.le_of_ble_eq_true rfl) ?_
  intro p e s m below meth c B K
  have C := B.1
  have hF : Fq L κ ow [107, 110, 112, 16100, 16200, 16300] I I := fq_rf
  have hG : Fq L κ ow [] J J := fq_rf
  obtain ⟨b_1, hb_1, hb_1L, hb_1k, hb_1n, hb_1o⟩ := shp_a (W9 x hLx) hkx 3 14 7 rfl (by decide)
  refine g_lo (is := [0, 1]) (lo2 := [(0, .ref x), (1, .int a0)]) rfl ?_
  refine g_aload_n C 0 dX1_tryToDie_0 rfl rfl ?_
  refine g_iload_n C 1 dX1_tryToDie_1 rfl rfl ?_
  refine g_callVI C K (c_X1_lives W9 hLx hkx a0 (ra0) hU) hLx hkx (by decide) rfl v_1_115 rfl ⟨rfl, rfl⟩ ⟨Nat.le_of_ble_eq_true rfl, Nat.le_of_ble_eq_true rfl⟩ (Nat.le_of_ble_eq_true rfl) ⟨Nat.le_of_ble_eq_true rfl, Nat.le_of_ble_eq_true rfl⟩ dX1_tryToDie_2 rfl (st := []) (fun x_2 I_3 J_4 h_5 => ?_)
  obtain ⟨rfl, rfl, rx_2⟩ := h_5
  refine g_if_ne C (tgt := 10) dX1_tryToDie_5 (by decide) (fun h_6 => ?_) (fun h_6 => ?_)
  · skip
    have n_7 : ¬ x_2 = 0 := h_6
    have r_8 := ne_lo (lo := 1) n_7 rx_2 rc_0 rfl (by decide)
    refine g_aload_n C 0 dX1_tryToDie_10 rfl rfl ?_
    refine g_dup C dX1_tryToDie_11 rfl ?_
    obtain ⟨x_9, hx_9, rx_9⟩ := ex_get (I := I) (a := x) (j := 7) (lo := (-2147483648)) (hi := 2147483647) hU.1 hLx (ro_o hkx (by decide)) rfl
    refine g_getI C K hLx hkx f_1_30 (v := x_9) hx_9 dX1_tryToDie_12 ?_
    refine g_iconst C (v := 1) dX1_tryToDie_15 (by decide) ?_
    refine g_iload_n C 1 dX1_tryToDie_16 rfl rfl ?_
    obtain ⟨x_10, hx_10, rx_10⟩ := ex_shl (x := 1) (y := a0) 6 64 rfl (ra0) (by decide)
    refine g_ishl C (v := x_10) dX1_tryToDie_17 hx_10 ?_
    obtain ⟨x_11, hx_11, rx_11⟩ := ex_any (z0 := x_9 ||| x_10)
    refine g_ior C (v := x_11) dX1_tryToDie_18 hx_11 ?_
    refine h_putI C K hLx hkx f_1_30 p_1_7 dX1_tryToDie_19 (fun I_12 hI_12 => ?_)
    have hU_13 := iv_put W9 hU hI_12 (ro_o hkx (by decide)) (lo := (-2147483648)) (hi := 2147483647) (rfl) (rx_11) rfl
    have hF_14 := fq_puto hF hI_12 hkx (by decide) (by decide)
    refine g_aload_n C 0 dX1_tryToDie_22 rfl rfl ?_
    refine g_getR C K hLx hkx f_1_18 hb_1 dX1_tryToDie_23 ?_
    refine g_iload_n C 1 dX1_tryToDie_26 rfl rfl ?_
    obtain ⟨x_15, hx_15, rx_15⟩ := ex_any (z0 := I_12 b_1 (a0.toNatClampNeg))
    refine h_iald C K hb_1L hb_1k (v := x_15) (a0.toNatClampNeg) (rfl) (ix_0 ra0 (by decide)) (ix_lt ra0 (by decide) hb_1n (by decide)) hx_15 dX1_tryToDie_27 ?_
    refine g_if_le C (tgt := 36) dX1_tryToDie_28 (by decide) (fun h_16 => ?_) (fun h_16 => ?_)
    · skip
      have r_17 := le_l (h_16) rx_15 rc_0
      refine g_iconst C (v := 0) dX1_tryToDie_36 (by decide) ?_
      exact g_zret (ty := .int) (r := 0) B K rfl (rfl) ⟨hU_13, hF_14, hG, rg_w rc_0 (by decide) (by decide)⟩ dX1_tryToDie_37
    · skip
      have r_18 := lt_r (lo := 1) (nle h_16) rc_0 rx_15 (by decide)
      refine g_aload_n C 0 dX1_tryToDie_31 rfl rfl ?_
      refine g_iload_n C 1 dX1_tryToDie_32 rfl rfl ?_
      refine g_callVV C K (c_X1_passOn W9 hLx hkx a0 (ra0) hU_13) hLx hkx (by decide) rfl v_1_119 rfl ⟨rfl, rfl⟩ ⟨Nat.le_of_ble_eq_true rfl, Nat.le_of_ble_eq_true rfl⟩ (Nat.le_of_ble_eq_true rfl) ⟨Nat.le_of_ble_eq_true rfl, Nat.le_of_ble_eq_true rfl⟩ dX1_tryToDie_33 rfl (st := []) (fun I_20 J_21 h_22 => ?_)
      obtain ⟨hUI_20, hFI_20, hGJ_21⟩ := h_22
      have hF_23 := fq_tr hF_14 hFI_20 (by decide)
      have hG_24 := fq_tr hG hGJ_21 (by decide)
      refine g_iconst C (v := 0) dX1_tryToDie_36 (by decide) ?_
      exact g_zret (ty := .int) (r := 0) B K rfl (rfl) ⟨hUI_20, hF_23, hG_24, rg_w rc_0 (by decide) (by decide)⟩ dX1_tryToDie_37
  · skip
    have r_25 := (⟨(rx_2).1, (eq_rg (h_6) rc_0).2⟩ : Rg 0 0 x_2)
    refine g_iconst C (v := 1) dX1_tryToDie_8 (by decide) ?_
    exact g_zret (ty := .int) (r := 1) B K rfl (rfl) ⟨hU, hF, hG, rg_w rc_1 (by decide) (by decide)⟩ dX1_tryToDie_9
set_option maxRecDepth 100000 in
set_option maxHeartbeats 8000000 in
theorem c_X11_die {l : Launch} {D : va_G} {cy : Nat → ClassId} {L : List Nat} {κ ln : Nat → Nat} {R : Nat → Nat → Option Nat} {I : Nat → Nat → Int32} {J : Nat → Nat → Int64} {ow : Nat → Nat × Nat} (W9 : ∀ a ∈ L, Shp L κ ln R ow a) {x : Nat} (hLx : x ∈ L) (hkx : κ x = 11) (a0 : Int32) (hU : Iv L κ R ow I) : CtI l yX11_die cX11_die 2 (some .int) { frames := 4, cells := 0, slots := 0, locals := 107 } D cy L κ ln R I J [.ref x, .int a0] (fun r I2 J2 => Iv L κ R ow I2 ∧ Fq L κ ow [107, 108, 109, 110, 111, 112, 501, 502, 16100, 16200, 16300, 16400, 16500, 16600] I I2 ∧ Fq L κ ow [] J J2 ∧ Rg (-1) 3 r) := by
  refine CtI.of (by decide +kernel) (Nat.le_of_ble_eq_true rfl) ?_
  intro p e s m below meth c B K
  have C := B.1
  have hF : Fq L κ ow [107, 108, 109, 110, 111, 112, 501, 502, 16100, 16200, 16300, 16400, 16500, 16600] I I := fq_rf
  have hG : Fq L κ ow [] J J := fq_rf
  obtain ⟨b_1, hb_1, hb_1L, hb_1k⟩ := shp_o (W9 x hLx) hkx 4 5 rfl (by decide)
  obtain ⟨b_2, hb_2, hb_2L, hb_2k⟩ := shp_o (W9 x hLx) hkx 1 8 rfl (by decide)
  obtain ⟨b_3, hb_3, hb_3L, hb_3k⟩ := shp_o (W9 x hLx) hkx 2 1 rfl (by decide)
  refine g_lo (is := [0, 1]) (lo2 := [(0, .ref x), (1, .int a0)]) rfl ?_
  refine g_aload_n C 0 dX11_die_0 rfl rfl ?_
  refine g_getR C K hLx hkx f_11_19 hb_2 dX11_die_1 ?_
  refine g_iload_n C 1 dX11_die_4 rfl rfl ?_
  refine g_callVI C K (c_X8_hasPerson W9 hb_2L hb_2k a0  hU) hb_2L hb_2k (by decide) rfl v_11_133 rfl ⟨rfl, rfl⟩ ⟨Nat.le_of_ble_eq_true rfl, Nat.le_of_ble_eq_true rfl⟩ (Nat.le_of_ble_eq_true rfl) ⟨Nat.le_of_ble_eq_true rfl, Nat.le_of_ble_eq_true rfl⟩ dX11_die_5 rfl (st := []) (fun x_4 I_5 J_6 h_7 => ?_)
  obtain ⟨rfl, rfl, rx_4, ex_4⟩ := h_7
  refine g_if_ne C (tgt := 13) dX11_die_8 (by decide) (fun h_8 => ?_) (fun h_8 => ?_)
  · skip
    have n_9 : ¬ x_4 = 0 := h_8
    have r_10 := ne_lo (lo := 1) n_9 rx_4 rc_0 rfl (by decide)
    have r_11 := rg_i (rg_all a0) ((ex_4) n_9) (lo := 0) (hi := 6) (by decide) (by decide)
    refine g_aload_n C 0 dX11_die_13 rfl rfl ?_
    refine g_getR C K hLx hkx f_11_38 hb_1 dX11_die_14 ?_
    refine g_aload_n C 0 dX11_die_17 rfl rfl ?_
    refine g_getR C K hLx hkx f_11_28 hb_3 dX11_die_18 ?_
    refine g_callVV C K (c_X5_note W9 hb_1L hb_1k hb_3L hb_3k  hU) hb_1L hb_1k (by decide) rfl v_11_225 rfl ⟨rfl, rfl⟩ ⟨Nat.le_of_ble_eq_true rfl, Nat.le_of_ble_eq_true rfl⟩ (Nat.le_of_ble_eq_true rfl) ⟨Nat.le_of_ble_eq_true rfl, Nat.le_of_ble_eq_true rfl⟩ dX11_die_21 rfl (st := []) (fun I_13 J_14 h_15 => ?_)
    obtain ⟨hUI_13, hFI_13, hGJ_14⟩ := h_15
    have hF_16 := fq_tr hF hFI_13 (by decide)
    have hG_17 := fq_tr hG hGJ_14 (by decide)
    refine g_aload_n C 0 dX11_die_24 rfl rfl ?_
    refine g_aload_n C 0 dX11_die_25 rfl rfl ?_
    refine g_getR C K hLx hkx f_11_28 hb_3 dX11_die_26 ?_
    refine g_iload_n C 1 dX11_die_29 rfl rfl ?_
    refine g_callVI C K (c_X1_tryToDie W9 hb_3L hb_3k a0 (r_11) hUI_13) hb_3L hb_3k (by decide) rfl v_11_247 rfl ⟨rfl, rfl⟩ ⟨Nat.le_of_ble_eq_true rfl, Nat.le_of_ble_eq_true rfl⟩ (Nat.le_of_ble_eq_true rfl) ⟨Nat.le_of_ble_eq_true rfl, Nat.le_of_ble_eq_true rfl⟩ dX11_die_30 rfl (st := [.ref x]) (fun x_18 I_19 J_20 h_21 => ?_)
    obtain ⟨hUI_19, hFI_19, hGJ_20, rx_18⟩ := h_21
    have hF_22 := fq_tr hF_16 hFI_19 (by decide)
    have hG_23 := fq_tr hG_17 hGJ_20 (by decide)
    refine g_callVI C K (c_X11_keptIfDone W9 hLx hkx x_18 (rg_w rx_18 (by decide) (by decide)) hUI_19) hLx hkx (by decide) rfl v_11_232 rfl ⟨rfl, rfl⟩ ⟨Nat.le_of_ble_eq_true rfl, Nat.le_of_ble_eq_true rfl⟩ (Nat.le_of_ble_eq_true rfl) ⟨Nat.le_of_ble_eq_true rfl, Nat.le_of_ble_eq_true rfl⟩ dX11_die_33 rfl (st := []) (fun x_24 I_25 J_26 h_27 => ?_)
    obtain ⟨hUI_25, hFI_25, hGJ_26, rx_24⟩ := h_27
    have hF_28 := fq_tr hF_22 hFI_25 (by decide)
    have hG_29 := fq_tr hG_23 hGJ_26 (by decide)
    exact g_zret (ty := .int) (r := x_24) B K rfl (rfl) ⟨hUI_25, hF_28, hG_29, rg_w rx_24 (by decide) (by decide)⟩ dX11_die_36
  · skip
    have r_30 := (⟨(rx_4).1, (eq_rg (h_8) rc_0).2⟩ : Rg 0 0 x_4)
    refine g_iconst C (v := (-1)) dX11_die_11 (by decide) ?_
    exact g_zret (ty := .int) (r := (-1)) B K rfl (rfl) ⟨hU, hF, hG, rg_w rc_m1 (by decide) (by decide)⟩ dX11_die_12
set_option maxRecDepth 100000 in
set_option maxHeartbeats 8000000 in
theorem c_X11_keptIfAny {l : Launch} {D : va_G} {cy : Nat → ClassId} {L : List Nat} {κ ln : Nat → Nat} {R : Nat → Nat → Option Nat} {I : Nat → Nat → Int32} {J : Nat → Nat → Int64} {ow : Nat → Nat × Nat} (W9 : ∀ a ∈ L, Shp L κ ln R ow a) {x : Nat} (hLx : x ∈ L) (hkx : κ x = 11) (a0 : Int32) (ra0 : Rg 0 2147483647 a0) (hU : Iv L κ R ow I) : CtI l yX11_keptIfAny cX11_keptIfAny 2 (some .int) { frames := 2, cells := 0, slots := 0, locals := 80 } D cy L κ ln R I J [.ref x, .int a0] (fun r I2 J2 => Iv L κ R ow I2 ∧ Fq L κ ow [501, 502] I I2 ∧ Fq L κ ow [] J J2 ∧ Rg 0 2147483647 r) := by
  refine CtI.of (by decide +kernel) (Nat.le_of_ble_eq_true rfl) ?_
  intro p e s m below meth c B K
  have C := B.1
  have hF : Fq L κ ow [501, 502] I I := fq_rf
  have hG : Fq L κ ow [] J J := fq_rf
  obtain ⟨b_1, hb_1, hb_1L, hb_1k⟩ := shp_o (W9 x hLx) hkx 4 5 rfl (by decide)
  refine g_lo (is := [0, 1]) (lo2 := [(0, .ref x), (1, .int a0)]) rfl ?_
  refine g_iload_n C 1 dX11_keptIfAny_0 rfl rfl ?_
  refine g_if_le C (tgt := 11) dX11_keptIfAny_1 (by decide) (fun h_2 => ?_) (fun h_2 => ?_)
  · skip
    have r_3 := le_l (h_2) ra0 rc_0
    refine g_iload_n C 1 dX11_keptIfAny_11 rfl rfl ?_
    exact g_zret (ty := .int) (r := a0) B K rfl (rfl) ⟨hU, hF, hG, rg_w r_3 (by decide) (by decide)⟩ dX11_keptIfAny_12
  · skip
    have r_4 := lt_r (lo := 1) (nle h_2) rc_0 ra0 (by decide)
    refine g_aload_n C 0 dX11_keptIfAny_4 rfl rfl ?_
    refine g_getR C K hLx hkx f_11_38 hb_1 dX11_keptIfAny_5 ?_
    refine g_callVV C K (c_X5_keepNoted W9 hb_1L hb_1k   hU) hb_1L hb_1k (by decide) rfl v_11_260 rfl ⟨rfl, rfl⟩ ⟨Nat.le_of_ble_eq_true rfl, Nat.le_of_ble_eq_true rfl⟩ (Nat.le_of_ble_eq_true rfl) ⟨Nat.le_of_ble_eq_true rfl, Nat.le_of_ble_eq_true rfl⟩ dX11_keptIfAny_8 rfl (st := []) (fun I_6 J_7 h_8 => ?_)
    obtain ⟨hUI_6, hFI_6, hGJ_7⟩ := h_8
    have hF_9 := fq_tr hF hFI_6 (by decide)
    have hG_10 := fq_tr hG hGJ_7 (by decide)
    refine g_iload_n C 1 dX11_keptIfAny_11 rfl rfl ?_
    exact g_zret (ty := .int) (r := a0) B K rfl (rfl) ⟨hUI_6, hF_9, hG_10, rg_w r_4 (by decide) (by decide)⟩ dX11_keptIfAny_12
