theorem dX12_accept_0 : decode cX12_accept 0 = .ok (.aload_n 0, 1) := by decide +kernel
theorem dX12_accept_1 : decode cX12_accept 1 = .ok (.iconst 0, 1) := by decide +kernel
theorem dX12_accept_2 : decode cX12_accept 2 = .ok (.putfield 82, 3) := by decide +kernel
theorem dX12_accept_5 : decode cX12_accept 5 = .ok (.aload_n 0, 1) := by decide +kernel
theorem dX12_accept_6 : decode cX12_accept 6 = .ok (.iload_n 1, 1) := by decide +kernel
theorem dX12_accept_7 : decode cX12_accept 7 = .ok (.invokevirtual 238, 3) := by decide +kernel
theorem dX12_accept_10 : decode cX12_accept 10 = .ok (.ifCond .eq 14, 3) := by decide +kernel
theorem dX12_accept_13 : decode cX12_accept 13 = .ok (.aload_n 0, 1) := by decide +kernel
theorem dX12_accept_14 : decode cX12_accept 14 = .ok (.iconst 4, 1) := by decide +kernel
theorem dX12_accept_15 : decode cX12_accept 15 = .ok (.iload_n 1, 1) := by decide +kernel
theorem dX12_accept_16 : decode cX12_accept 16 = .ok (.iconst 0, 1) := by decide +kernel
theorem dX12_accept_17 : decode cX12_accept 17 = .ok (.iconst 0, 1) := by decide +kernel
theorem dX12_accept_18 : decode cX12_accept 18 = .ok (.invokevirtual 289, 3) := by decide +kernel
theorem dX12_accept_21 : decode cX12_accept 21 = .ok (.goto 4, 3) := by decide +kernel
theorem dX12_accept_24 : decode cX12_accept 24 = .ok (.iconst (-1), 1) := by decide +kernel
theorem dX12_accept_25 : decode cX12_accept 25 = .ok (.ireturn, 1) := by decide +kernel
theorem dX12_bits_0 : decode cX12_bits 0 = .ok (.iconst 0, 1) := by decide +kernel
theorem dX12_bits_1 : decode cX12_bits 1 = .ok (.istore_n 1, 1) := by decide +kernel
theorem dX12_bits_2 : decode cX12_bits 2 = .ok (.iload_n 0, 1) := by decide +kernel
theorem dX12_bits_3 : decode cX12_bits 3 = .ok (.istore_n 2, 1) := by decide +kernel
theorem dX12_bits_4 : decode cX12_bits 4 = .ok (.iload_n 2, 1) := by decide +kernel
theorem dX12_bits_5 : decode cX12_bits 5 = .ok (.ifCond .eq 15, 3) := by decide +kernel
theorem dX12_bits_8 : decode cX12_bits 8 = .ok (.iinc 1 1, 3) := by decide +kernel
theorem dX12_bits_11 : decode cX12_bits 11 = .ok (.iload_n 2, 1) := by decide +kernel
theorem dX12_bits_12 : decode cX12_bits 12 = .ok (.iload_n 2, 1) := by decide +kernel
theorem dX12_bits_13 : decode cX12_bits 13 = .ok (.iconst 1, 1) := by decide +kernel
theorem dX12_bits_14 : decode cX12_bits 14 = .ok (.isub, 1) := by decide +kernel
theorem dX12_bits_15 : decode cX12_bits 15 = .ok (.iand, 1) := by decide +kernel
theorem dX12_bits_16 : decode cX12_bits 16 = .ok (.istore_n 2, 1) := by decide +kernel
theorem dX12_bits_17 : decode cX12_bits 17 = .ok (.goto (-13), 3) := by decide +kernel
theorem dX12_bits_20 : decode cX12_bits 20 = .ok (.iload_n 1, 1) := by decide +kernel
theorem dX12_bits_21 : decode cX12_bits 21 = .ok (.ireturn, 1) := by decide +kernel
theorem dX12_die_0 : decode cX12_die 0 = .ok (.aload_n 0, 1) := by decide +kernel
theorem dX12_die_1 : decode cX12_die 1 = .ok (.iconst 0, 1) := by decide +kernel
theorem dX12_die_2 : decode cX12_die 2 = .ok (.putfield 82, 3) := by decide +kernel
theorem dX12_die_5 : decode cX12_die 5 = .ok (.aload_n 0, 1) := by decide +kernel
theorem dX12_die_6 : decode cX12_die 6 = .ok (.iload_n 1, 1) := by decide +kernel
theorem dX12_die_7 : decode cX12_die 7 = .ok (.invokevirtual 238, 3) := by decide +kernel
theorem dX12_die_10 : decode cX12_die 10 = .ok (.ifCond .eq 14, 3) := by decide +kernel
theorem dX12_die_13 : decode cX12_die 13 = .ok (.aload_n 0, 1) := by decide +kernel
theorem dX12_die_14 : decode cX12_die 14 = .ok (.iconst 5, 1) := by decide +kernel
theorem dX12_die_15 : decode cX12_die 15 = .ok (.iload_n 1, 1) := by decide +kernel
theorem dX12_die_16 : decode cX12_die 16 = .ok (.iconst 0, 1) := by decide +kernel
theorem dX12_die_17 : decode cX12_die 17 = .ok (.iconst 0, 1) := by decide +kernel
theorem dX12_die_18 : decode cX12_die 18 = .ok (.invokevirtual 289, 3) := by decide +kernel
theorem dX12_die_21 : decode cX12_die 21 = .ok (.goto 4, 3) := by decide +kernel
theorem dX12_die_24 : decode cX12_die 24 = .ok (.iconst (-1), 1) := by decide +kernel
theorem dX12_die_25 : decode cX12_die 25 = .ok (.ireturn, 1) := by decide +kernel
theorem dX12_eat_0 : decode cX12_eat 0 = .ok (.aload_n 0, 1) := by decide +kernel
theorem dX12_eat_1 : decode cX12_eat 1 = .ok (.iconst 0, 1) := by decide +kernel
theorem dX12_eat_2 : decode cX12_eat 2 = .ok (.putfield 82, 3) := by decide +kernel
theorem dX12_eat_5 : decode cX12_eat 5 = .ok (.aload_n 0, 1) := by decide +kernel
theorem dX12_eat_6 : decode cX12_eat 6 = .ok (.iload_n 1, 1) := by decide +kernel
theorem dX12_eat_7 : decode cX12_eat 7 = .ok (.invokevirtual 238, 3) := by decide +kernel
theorem dX12_eat_10 : decode cX12_eat 10 = .ok (.ifCond .eq 32, 3) := by decide +kernel
theorem dX12_eat_13 : decode cX12_eat 13 = .ok (.aload_n 0, 1) := by decide +kernel
theorem dX12_eat_14 : decode cX12_eat 14 = .ok (.iload_n 2, 1) := by decide +kernel
theorem dX12_eat_15 : decode cX12_eat 15 = .ok (.invokevirtual 250, 3) := by decide +kernel
theorem dX12_eat_18 : decode cX12_eat 18 = .ok (.ifCond .eq 24, 3) := by decide +kernel
theorem dX12_eat_21 : decode cX12_eat 21 = .ok (.iload_n 3, 1) := by decide +kernel
theorem dX12_eat_22 : decode cX12_eat 22 = .ok (.iconst 1, 1) := by decide +kernel
theorem dX12_eat_23 : decode cX12_eat 23 = .ok (.bipush 20, 2) := by decide +kernel
theorem dX12_eat_25 : decode cX12_eat 25 = .ok (.invokestatic 149, 3) := by decide +kernel
theorem dX12_eat_28 : decode cX12_eat 28 = .ok (.ifCond .eq 14, 3) := by decide +kernel
theorem dX12_eat_31 : decode cX12_eat 31 = .ok (.aload_n 0, 1) := by decide +kernel
theorem dX12_eat_32 : decode cX12_eat 32 = .ok (.iconst 0, 1) := by decide +kernel
theorem dX12_eat_33 : decode cX12_eat 33 = .ok (.iload_n 1, 1) := by decide +kernel
theorem dX12_eat_34 : decode cX12_eat 34 = .ok (.iload_n 2, 1) := by decide +kernel
theorem dX12_eat_35 : decode cX12_eat 35 = .ok (.iload_n 3, 1) := by decide +kernel
theorem dX12_eat_36 : decode cX12_eat 36 = .ok (.invokevirtual 289, 3) := by decide +kernel
theorem dX12_eat_39 : decode cX12_eat 39 = .ok (.goto 4, 3) := by decide +kernel
theorem dX12_eat_42 : decode cX12_eat 42 = .ok (.iconst (-1), 1) := by decide +kernel
theorem dX12_eat_43 : decode cX12_eat 43 = .ok (.ireturn, 1) := by decide +kernel
theorem dX12_eatsAll_0 : decode cX12_eatsAll 0 = .ok (.iconst 0, 1) := by decide +kernel
theorem dX12_eatsAll_1 : decode cX12_eatsAll 1 = .ok (.istore_n 2, 1) := by decide +kernel
theorem dX12_eatsAll_2 : decode cX12_eatsAll 2 = .ok (.iload_n 2, 1) := by decide +kernel
theorem dX12_eatsAll_3 : decode cX12_eatsAll 3 = .ok (.bipush 6, 2) := by decide +kernel
theorem dX12_eatsAll_5 : decode cX12_eatsAll 5 = .ok (.if_icmp .ge 29, 3) := by decide +kernel
theorem dX12_eatsAll_8 : decode cX12_eatsAll 8 = .ok (.aload_n 0, 1) := by decide +kernel
theorem dX12_eatsAll_9 : decode cX12_eatsAll 9 = .ok (.iload_n 1, 1) := by decide +kernel
theorem dX12_eatsAll_10 : decode cX12_eatsAll 10 = .ok (.iload_n 2, 1) := by decide +kernel
theorem dX12_eatsAll_11 : decode cX12_eatsAll 11 = .ok (.aload_n 0, 1) := by decide +kernel
theorem dX12_eatsAll_12 : decode cX12_eatsAll 12 = .ok (.iload_n 1, 1) := by decide +kernel
theorem dX12_eatsAll_13 : decode cX12_eatsAll 13 = .ok (.iload_n 2, 1) := by decide +kernel
theorem dX12_eatsAll_14 : decode cX12_eatsAll 14 = .ok (.invokevirtual 234, 3) := by decide +kernel
theorem dX12_eatsAll_17 : decode cX12_eatsAll 17 = .ok (.aload_n 0, 1) := by decide +kernel
theorem dX12_eatsAll_18 : decode cX12_eatsAll 18 = .ok (.iload_n 1, 1) := by decide +kernel
theorem dX12_eatsAll_19 : decode cX12_eatsAll 19 = .ok (.invokevirtual 268, 3) := by decide +kernel
theorem dX12_eatsAll_22 : decode cX12_eatsAll 22 = .ok (.invokestatic 265, 3) := by decide +kernel
theorem dX12_eatsAll_25 : decode cX12_eatsAll 25 = .ok (.invokevirtual 271, 3) := by decide +kernel
theorem dX12_eatsAll_28 : decode cX12_eatsAll 28 = .ok (.iinc 2 1, 3) := by decide +kernel
theorem dX12_eatsAll_31 : decode cX12_eatsAll 31 = .ok (.goto (-29), 3) := by decide +kernel
theorem dX12_eatsAll_34 : decode cX12_eatsAll 34 = .ok (.return_, 1) := by decide +kernel
theorem dX12_living_0 : decode cX12_living 0 = .ok (.iconst 1, 1) := by decide +kernel
theorem dX12_living_1 : decode cX12_living 1 = .ok (.aload_n 0, 1) := by decide +kernel
theorem dX12_living_2 : decode cX12_living 2 = .ok (.getfield 13, 3) := by decide +kernel
theorem dX12_living_5 : decode cX12_living 5 = .ok (.iconst 0, 1) := by decide +kernel
theorem dX12_living_6 : decode cX12_living 6 = .ok (.iaload, 1) := by decide +kernel
theorem dX12_living_7 : decode cX12_living 7 = .ok (.ishl, 1) := by decide +kernel
theorem dX12_living_8 : decode cX12_living 8 = .ok (.iconst 1, 1) := by decide +kernel
theorem dX12_living_9 : decode cX12_living 9 = .ok (.isub, 1) := by decide +kernel
theorem dX12_living_10 : decode cX12_living 10 = .ok (.aload_n 0, 1) := by decide +kernel
theorem dX12_living_11 : decode cX12_living 11 = .ok (.getfield 13, 3) := by decide +kernel
theorem dX12_living_14 : decode cX12_living 14 = .ok (.bipush 73, 2) := by decide +kernel
theorem dX12_living_16 : decode cX12_living 16 = .ok (.iaload, 1) := by decide +kernel
theorem dX12_living_17 : decode cX12_living 17 = .ok (.iconst (-1), 1) := by decide +kernel
theorem dX12_living_18 : decode cX12_living 18 = .ok (.ixor, 1) := by decide +kernel
theorem dX12_living_19 : decode cX12_living 19 = .ok (.iand, 1) := by decide +kernel
theorem dX12_living_20 : decode cX12_living 20 = .ok (.ireturn, 1) := by decide +kernel
theorem dX12_meals_0 : decode cX12_meals 0 = .ok (.aload_n 0, 1) := by decide +kernel
theorem dX12_meals_1 : decode cX12_meals 1 = .ok (.iconst 0, 1) := by decide +kernel
theorem dX12_meals_2 : decode cX12_meals 2 = .ok (.putfield 82, 3) := by decide +kernel
theorem dX12_meals_5 : decode cX12_meals 5 = .ok (.iload_n 1, 1) := by decide +kernel
theorem dX12_meals_6 : decode cX12_meals 6 = .ok (.iconst 1, 1) := by decide +kernel
theorem dX12_meals_7 : decode cX12_meals 7 = .ok (.bipush 60, 2) := by decide +kernel
theorem dX12_meals_9 : decode cX12_meals 9 = .ok (.invokestatic 149, 3) := by decide +kernel
theorem dX12_meals_12 : decode cX12_meals 12 = .ok (.ifCond .ne 5, 3) := by decide +kernel
theorem dX12_meals_15 : decode cX12_meals 15 = .ok (.iconst (-1), 1) := by decide +kernel
theorem dX12_meals_16 : decode cX12_meals 16 = .ok (.ireturn, 1) := by decide +kernel
theorem dX12_meals_17 : decode cX12_meals 17 = .ok (.aload_n 0, 1) := by decide +kernel
theorem dX12_meals_18 : decode cX12_meals 18 = .ok (.getfield 13, 3) := by decide +kernel
theorem dX12_meals_21 : decode cX12_meals 21 = .ok (.bipush 72, 2) := by decide +kernel
theorem dX12_meals_23 : decode cX12_meals 23 = .ok (.iaload, 1) := by decide +kernel
theorem dX12_meals_24 : decode cX12_meals 24 = .ok (.sipush 200, 3) := by decide +kernel
theorem dX12_meals_27 : decode cX12_meals 27 = .ok (.if_icmp .ne 5, 3) := by decide +kernel
theorem dX12_meals_30 : decode cX12_meals 30 = .ok (.iconst 0, 1) := by decide +kernel
theorem dX12_meals_31 : decode cX12_meals 31 = .ok (.ireturn, 1) := by decide +kernel
theorem dX12_meals_32 : decode cX12_meals 32 = .ok (.aload_n 0, 1) := by decide +kernel
theorem dX12_meals_33 : decode cX12_meals 33 = .ok (.invokevirtual 282, 3) := by decide +kernel
theorem dX12_meals_36 : decode cX12_meals 36 = .ok (.aload_n 0, 1) := by decide +kernel
theorem dX12_meals_37 : decode cX12_meals 37 = .ok (.iload_n 1, 1) := by decide +kernel
theorem dX12_meals_38 : decode cX12_meals 38 = .ok (.invokevirtual 295, 3) := by decide +kernel
theorem dX12_meals_41 : decode cX12_meals 41 = .ok (.ireturn, 1) := by decide +kernel
theorem dX12_oneMeal_0 : decode cX12_oneMeal 0 = .ok (.iconst 0, 1) := by decide +kernel
theorem dX12_oneMeal_1 : decode cX12_oneMeal 1 = .ok (.istore_n 1, 1) := by decide +kernel
theorem dX12_oneMeal_2 : decode cX12_oneMeal 2 = .ok (.iload_n 1, 1) := by decide +kernel
theorem dX12_oneMeal_3 : decode cX12_oneMeal 3 = .ok (.aload_n 0, 1) := by decide +kernel
theorem dX12_oneMeal_4 : decode cX12_oneMeal 4 = .ok (.getfield 13, 3) := by decide +kernel
theorem dX12_oneMeal_7 : decode cX12_oneMeal 7 = .ok (.iconst 0, 1) := by decide +kernel
theorem dX12_oneMeal_8 : decode cX12_oneMeal 8 = .ok (.iaload, 1) := by decide +kernel
theorem dX12_oneMeal_9 : decode cX12_oneMeal 9 = .ok (.if_icmp .ge 106, 3) := by decide +kernel
theorem dX12_oneMeal_12 : decode cX12_oneMeal 12 = .ok (.aload_n 0, 1) := by decide +kernel
theorem dX12_oneMeal_13 : decode cX12_oneMeal 13 = .ok (.iload_n 1, 1) := by decide +kernel
theorem dX12_oneMeal_14 : decode cX12_oneMeal 14 = .ok (.invokevirtual 244, 3) := by decide +kernel
theorem dX12_oneMeal_17 : decode cX12_oneMeal 17 = .ok (.ifCond .ne 20, 3) := by decide +kernel
theorem dX12_oneMeal_20 : decode cX12_oneMeal 20 = .ok (.aload_n 0, 1) := by decide +kernel
theorem dX12_oneMeal_21 : decode cX12_oneMeal 21 = .ok (.getfield 13, 3) := by decide +kernel
theorem dX12_oneMeal_24 : decode cX12_oneMeal 24 = .ok (.bipush 98, 2) := by decide +kernel
theorem dX12_oneMeal_26 : decode cX12_oneMeal 26 = .ok (.iload_n 1, 1) := by decide +kernel
theorem dX12_oneMeal_27 : decode cX12_oneMeal 27 = .ok (.iadd, 1) := by decide +kernel
theorem dX12_oneMeal_28 : decode cX12_oneMeal 28 = .ok (.dup2, 1) := by decide +kernel
theorem dX12_oneMeal_29 : decode cX12_oneMeal 29 = .ok (.iaload, 1) := by decide +kernel
theorem dX12_oneMeal_30 : decode cX12_oneMeal 30 = .ok (.aload_n 0, 1) := by decide +kernel
theorem dX12_oneMeal_31 : decode cX12_oneMeal 31 = .ok (.iload_n 1, 1) := by decide +kernel
theorem dX12_oneMeal_32 : decode cX12_oneMeal 32 = .ok (.invokevirtual 268, 3) := by decide +kernel
theorem dX12_oneMeal_35 : decode cX12_oneMeal 35 = .ok (.iadd, 1) := by decide +kernel
theorem dX12_oneMeal_36 : decode cX12_oneMeal 36 = .ok (.iastore, 1) := by decide +kernel
theorem dX12_oneMeal_37 : decode cX12_oneMeal 37 = .ok (.iconst 0, 1) := by decide +kernel
theorem dX12_oneMeal_38 : decode cX12_oneMeal 38 = .ok (.istore_n 2, 1) := by decide +kernel
theorem dX12_oneMeal_39 : decode cX12_oneMeal 39 = .ok (.iload_n 2, 1) := by decide +kernel
theorem dX12_oneMeal_40 : decode cX12_oneMeal 40 = .ok (.bipush 6, 2) := by decide +kernel
theorem dX12_oneMeal_42 : decode cX12_oneMeal 42 = .ok (.if_icmp .ge 57, 3) := by decide +kernel
theorem dX12_oneMeal_45 : decode cX12_oneMeal 45 = .ok (.aload_n 0, 1) := by decide +kernel
theorem dX12_oneMeal_46 : decode cX12_oneMeal 46 = .ok (.getfield 13, 3) := by decide +kernel
theorem dX12_oneMeal_49 : decode cX12_oneMeal 49 = .ok (.bipush 24, 2) := by decide +kernel
theorem dX12_oneMeal_51 : decode cX12_oneMeal 51 = .ok (.iload_n 2, 1) := by decide +kernel
theorem dX12_oneMeal_52 : decode cX12_oneMeal 52 = .ok (.iadd, 1) := by decide +kernel
theorem dX12_oneMeal_53 : decode cX12_oneMeal 53 = .ok (.iaload, 1) := by decide +kernel
theorem dX12_oneMeal_54 : decode cX12_oneMeal 54 = .ok (.aload_n 0, 1) := by decide +kernel
theorem dX12_oneMeal_55 : decode cX12_oneMeal 55 = .ok (.iload_n 1, 1) := by decide +kernel
theorem dX12_oneMeal_56 : decode cX12_oneMeal 56 = .ok (.iload_n 2, 1) := by decide +kernel
theorem dX12_oneMeal_57 : decode cX12_oneMeal 57 = .ok (.invokevirtual 234, 3) := by decide +kernel
theorem dX12_oneMeal_60 : decode cX12_oneMeal 60 = .ok (.invokestatic 265, 3) := by decide +kernel
theorem dX12_oneMeal_63 : decode cX12_oneMeal 63 = .ok (.istore_n 3, 1) := by decide +kernel
theorem dX12_oneMeal_64 : decode cX12_oneMeal 64 = .ok (.aload_n 0, 1) := by decide +kernel
theorem dX12_oneMeal_65 : decode cX12_oneMeal 65 = .ok (.getfield 13, 3) := by decide +kernel
theorem dX12_oneMeal_68 : decode cX12_oneMeal 68 = .ok (.bipush 105, 2) := by decide +kernel
theorem dX12_oneMeal_70 : decode cX12_oneMeal 70 = .ok (.bipush 6, 2) := by decide +kernel
theorem dX12_oneMeal_72 : decode cX12_oneMeal 72 = .ok (.iload_n 1, 1) := by decide +kernel
theorem dX12_oneMeal_73 : decode cX12_oneMeal 73 = .ok (.imul, 1) := by decide +kernel
theorem dX12_oneMeal_74 : decode cX12_oneMeal 74 = .ok (.iadd, 1) := by decide +kernel
theorem dX12_oneMeal_75 : decode cX12_oneMeal 75 = .ok (.iload_n 2, 1) := by decide +kernel
theorem dX12_oneMeal_76 : decode cX12_oneMeal 76 = .ok (.iadd, 1) := by decide +kernel
theorem dX12_oneMeal_77 : decode cX12_oneMeal 77 = .ok (.dup2, 1) := by decide +kernel
theorem dX12_oneMeal_78 : decode cX12_oneMeal 78 = .ok (.iaload, 1) := by decide +kernel
theorem dX12_oneMeal_79 : decode cX12_oneMeal 79 = .ok (.iload_n 3, 1) := by decide +kernel
theorem dX12_oneMeal_80 : decode cX12_oneMeal 80 = .ok (.isub, 1) := by decide +kernel
theorem dX12_oneMeal_81 : decode cX12_oneMeal 81 = .ok (.iastore, 1) := by decide +kernel
theorem dX12_oneMeal_82 : decode cX12_oneMeal 82 = .ok (.aload_n 0, 1) := by decide +kernel
theorem dX12_oneMeal_83 : decode cX12_oneMeal 83 = .ok (.getfield 13, 3) := by decide +kernel
theorem dX12_oneMeal_86 : decode cX12_oneMeal 86 = .ok (.bipush 76, 2) := by decide +kernel
theorem dX12_oneMeal_88 : decode cX12_oneMeal 88 = .ok (.dup2, 1) := by decide +kernel
theorem dX12_oneMeal_89 : decode cX12_oneMeal 89 = .ok (.iaload, 1) := by decide +kernel
theorem dX12_oneMeal_90 : decode cX12_oneMeal 90 = .ok (.iload_n 3, 1) := by decide +kernel
theorem dX12_oneMeal_91 : decode cX12_oneMeal 91 = .ok (.iadd, 1) := by decide +kernel
theorem dX12_oneMeal_92 : decode cX12_oneMeal 92 = .ok (.iastore, 1) := by decide +kernel
theorem dX12_oneMeal_93 : decode cX12_oneMeal 93 = .ok (.iinc 2 1, 3) := by decide +kernel
theorem dX12_oneMeal_96 : decode cX12_oneMeal 96 = .ok (.goto (-57), 3) := by decide +kernel
theorem dX12_oneMeal_99 : decode cX12_oneMeal 99 = .ok (.aload_n 0, 1) := by decide +kernel
theorem dX12_oneMeal_100 : decode cX12_oneMeal 100 = .ok (.getfield 13, 3) := by decide +kernel
theorem dX12_oneMeal_103 : decode cX12_oneMeal 103 = .ok (.bipush 91, 2) := by decide +kernel
theorem dX12_oneMeal_105 : decode cX12_oneMeal 105 = .ok (.iload_n 1, 1) := by decide +kernel
theorem dX12_oneMeal_106 : decode cX12_oneMeal 106 = .ok (.iadd, 1) := by decide +kernel
theorem dX12_oneMeal_107 : decode cX12_oneMeal 107 = .ok (.iconst 0, 1) := by decide +kernel
theorem dX12_oneMeal_108 : decode cX12_oneMeal 108 = .ok (.iastore, 1) := by decide +kernel
theorem dX12_oneMeal_109 : decode cX12_oneMeal 109 = .ok (.iinc 1 1, 3) := by decide +kernel
theorem dX12_oneMeal_112 : decode cX12_oneMeal 112 = .ok (.goto (-110), 3) := by decide +kernel
theorem dX12_oneMeal_115 : decode cX12_oneMeal 115 = .ok (.aload_n 0, 1) := by decide +kernel
theorem dX12_oneMeal_116 : decode cX12_oneMeal 116 = .ok (.getfield 13, 3) := by decide +kernel
theorem dX12_oneMeal_119 : decode cX12_oneMeal 119 = .ok (.bipush 72, 2) := by decide +kernel
theorem dX12_oneMeal_121 : decode cX12_oneMeal 121 = .ok (.dup2, 1) := by decide +kernel
theorem dX12_oneMeal_122 : decode cX12_oneMeal 122 = .ok (.iaload, 1) := by decide +kernel
theorem dX12_oneMeal_123 : decode cX12_oneMeal 123 = .ok (.iconst 1, 1) := by decide +kernel
theorem dX12_oneMeal_124 : decode cX12_oneMeal 124 = .ok (.iadd, 1) := by decide +kernel
theorem dX12_oneMeal_125 : decode cX12_oneMeal 125 = .ok (.iastore, 1) := by decide +kernel
theorem dX12_oneMeal_126 : decode cX12_oneMeal 126 = .ok (.return_, 1) := by decide +kernel
theorem dX12_orderFrom_0 : decode cX12_orderFrom 0 = .ok (.iload_n 2, 1) := by decide +kernel
theorem dX12_orderFrom_1 : decode cX12_orderFrom 1 = .ok (.ifCond .ne 87, 3) := by decide +kernel
theorem dX12_orderFrom_4 : decode cX12_orderFrom 4 = .ok (.iconst 0, 1) := by decide +kernel
theorem dX12_orderFrom_5 : decode cX12_orderFrom 5 = .ok (.istore_n 3, 1) := by decide +kernel
theorem dX12_orderFrom_6 : decode cX12_orderFrom 6 = .ok (.iconst 0, 1) := by decide +kernel
theorem dX12_orderFrom_7 : decode cX12_orderFrom 7 = .ok (.istore 4, 2) := by decide +kernel
theorem dX12_orderFrom_9 : decode cX12_orderFrom 9 = .ok (.iload 4, 2) := by decide +kernel
theorem dX12_orderFrom_11 : decode cX12_orderFrom 11 = .ok (.aload_n 0, 1) := by decide +kernel
theorem dX12_orderFrom_12 : decode cX12_orderFrom 12 = .ok (.getfield 13, 3) := by decide +kernel
theorem dX12_orderFrom_15 : decode cX12_orderFrom 15 = .ok (.iconst 0, 1) := by decide +kernel
theorem dX12_orderFrom_16 : decode cX12_orderFrom 16 = .ok (.iaload, 1) := by decide +kernel
theorem dX12_orderFrom_17 : decode cX12_orderFrom 17 = .ok (.if_icmp .ge 27, 3) := by decide +kernel
theorem dX12_orderFrom_20 : decode cX12_orderFrom 20 = .ok (.aload_n 0, 1) := by decide +kernel
theorem dX12_orderFrom_21 : decode cX12_orderFrom 21 = .ok (.iload 4, 2) := by decide +kernel
theorem dX12_orderFrom_23 : decode cX12_orderFrom 23 = .ok (.invokevirtual 244, 3) := by decide +kernel
theorem dX12_orderFrom_26 : decode cX12_orderFrom 26 = .ok (.ifCond .ne 12, 3) := by decide +kernel
theorem dX12_orderFrom_29 : decode cX12_orderFrom 29 = .ok (.iload_n 3, 1) := by decide +kernel
theorem dX12_orderFrom_30 : decode cX12_orderFrom 30 = .ok (.aload_n 0, 1) := by decide +kernel
theorem dX12_orderFrom_31 : decode cX12_orderFrom 31 = .ok (.iload 4, 2) := by decide +kernel
theorem dX12_orderFrom_33 : decode cX12_orderFrom 33 = .ok (.invokevirtual 268, 3) := by decide +kernel
theorem dX12_orderFrom_36 : decode cX12_orderFrom 36 = .ok (.iadd, 1) := by decide +kernel
theorem dX12_orderFrom_37 : decode cX12_orderFrom 37 = .ok (.istore_n 3, 1) := by decide +kernel
theorem dX12_orderFrom_38 : decode cX12_orderFrom 38 = .ok (.iinc 4 1, 3) := by decide +kernel
theorem dX12_orderFrom_41 : decode cX12_orderFrom 41 = .ok (.goto (-32), 3) := by decide +kernel
theorem dX12_orderFrom_44 : decode cX12_orderFrom 44 = .ok (.iload_n 3, 1) := by decide +kernel
theorem dX12_orderFrom_45 : decode cX12_orderFrom 45 = .ok (.aload_n 0, 1) := by decide +kernel
theorem dX12_orderFrom_46 : decode cX12_orderFrom 46 = .ok (.getfield 298, 3) := by decide +kernel
theorem dX12_orderFrom_49 : decode cX12_orderFrom 49 = .ok (.if_icmp .lt 4, 3) := by decide +kernel
theorem dX12_orderFrom_52 : decode cX12_orderFrom 52 = .ok (.return_, 1) := by decide +kernel
theorem dX12_orderFrom_53 : decode cX12_orderFrom 53 = .ok (.aload_n 0, 1) := by decide +kernel
theorem dX12_orderFrom_54 : decode cX12_orderFrom 54 = .ok (.iload_n 3, 1) := by decide +kernel
theorem dX12_orderFrom_55 : decode cX12_orderFrom 55 = .ok (.putfield 298, 3) := by decide +kernel
theorem dX12_orderFrom_58 : decode cX12_orderFrom 58 = .ok (.iconst 0, 1) := by decide +kernel
theorem dX12_orderFrom_59 : decode cX12_orderFrom 59 = .ok (.istore 4, 2) := by decide +kernel
theorem dX12_orderFrom_61 : decode cX12_orderFrom 61 = .ok (.iload 4, 2) := by decide +kernel
theorem dX12_orderFrom_63 : decode cX12_orderFrom 63 = .ok (.iload_n 1, 1) := by decide +kernel
theorem dX12_orderFrom_64 : decode cX12_orderFrom 64 = .ok (.if_icmp .ge 23, 3) := by decide +kernel
theorem dX12_orderFrom_67 : decode cX12_orderFrom 67 = .ok (.aload_n 0, 1) := by decide +kernel
theorem dX12_orderFrom_68 : decode cX12_orderFrom 68 = .ok (.getfield 45, 3) := by decide +kernel
theorem dX12_orderFrom_71 : decode cX12_orderFrom 71 = .ok (.iload 4, 2) := by decide +kernel
theorem dX12_orderFrom_73 : decode cX12_orderFrom 73 = .ok (.aload_n 0, 1) := by decide +kernel
theorem dX12_orderFrom_74 : decode cX12_orderFrom 74 = .ok (.getfield 42, 3) := by decide +kernel
theorem dX12_orderFrom_77 : decode cX12_orderFrom 77 = .ok (.iload 4, 2) := by decide +kernel
theorem dX12_orderFrom_79 : decode cX12_orderFrom 79 = .ok (.iaload, 1) := by decide +kernel
theorem dX12_orderFrom_80 : decode cX12_orderFrom 80 = .ok (.iastore, 1) := by decide +kernel
theorem dX12_orderFrom_81 : decode cX12_orderFrom 81 = .ok (.iinc 4 1, 3) := by decide +kernel
theorem dX12_orderFrom_84 : decode cX12_orderFrom 84 = .ok (.goto (-23), 3) := by decide +kernel
theorem dX12_orderFrom_87 : decode cX12_orderFrom 87 = .ok (.return_, 1) := by decide +kernel
theorem dX12_passMeals_0 : decode cX12_passMeals 0 = .ok (.iload_n 1, 1) := by decide +kernel
theorem dX12_passMeals_1 : decode cX12_passMeals 1 = .ok (.sipush 200, 3) := by decide +kernel
theorem dX12_passMeals_4 : decode cX12_passMeals 4 = .ok (.aload_n 0, 1) := by decide +kernel
theorem dX12_passMeals_5 : decode cX12_passMeals 5 = .ok (.getfield 13, 3) := by decide +kernel
theorem dX12_passMeals_8 : decode cX12_passMeals 8 = .ok (.bipush 72, 2) := by decide +kernel
theorem dX12_passMeals_10 : decode cX12_passMeals 10 = .ok (.iaload, 1) := by decide +kernel
theorem dX12_passMeals_11 : decode cX12_passMeals 11 = .ok (.isub, 1) := by decide +kernel
theorem dX12_passMeals_12 : decode cX12_passMeals 12 = .ok (.invokestatic 265, 3) := by decide +kernel
theorem dX12_passMeals_15 : decode cX12_passMeals 15 = .ok (.istore_n 2, 1) := by decide +kernel
theorem dX12_passMeals_16 : decode cX12_passMeals 16 = .ok (.iconst 0, 1) := by decide +kernel
theorem dX12_passMeals_17 : decode cX12_passMeals 17 = .ok (.istore_n 3, 1) := by decide +kernel
theorem dX12_passMeals_18 : decode cX12_passMeals 18 = .ok (.iload_n 3, 1) := by decide +kernel
theorem dX12_passMeals_19 : decode cX12_passMeals 19 = .ok (.iload_n 2, 1) := by decide +kernel
theorem dX12_passMeals_20 : decode cX12_passMeals 20 = .ok (.if_icmp .ge 13, 3) := by decide +kernel
theorem dX12_passMeals_23 : decode cX12_passMeals 23 = .ok (.aload_n 0, 1) := by decide +kernel
theorem dX12_passMeals_24 : decode cX12_passMeals 24 = .ok (.invokevirtual 292, 3) := by decide +kernel
theorem dX12_passMeals_27 : decode cX12_passMeals 27 = .ok (.iinc 3 1, 3) := by decide +kernel
theorem dX12_passMeals_30 : decode cX12_passMeals 30 = .ok (.goto (-12), 3) := by decide +kernel
theorem dX12_passMeals_33 : decode cX12_passMeals 33 = .ok (.iload_n 2, 1) := by decide +kernel
theorem dX12_passMeals_34 : decode cX12_passMeals 34 = .ok (.ireturn, 1) := by decide +kernel
theorem dX12_refuse__0 : decode cX12_refuse_ 0 = .ok (.aload_n 0, 1) := by decide +kernel
theorem dX12_refuse__1 : decode cX12_refuse_ 1 = .ok (.iconst 0, 1) := by decide +kernel
theorem dX12_refuse__2 : decode cX12_refuse_ 2 = .ok (.putfield 82, 3) := by decide +kernel
theorem dX12_refuse__5 : decode cX12_refuse_ 5 = .ok (.aload_n 0, 1) := by decide +kernel
theorem dX12_refuse__6 : decode cX12_refuse_ 6 = .ok (.iload_n 1, 1) := by decide +kernel
theorem dX12_refuse__7 : decode cX12_refuse_ 7 = .ok (.invokevirtual 238, 3) := by decide +kernel
theorem dX12_refuse__10 : decode cX12_refuse_ 10 = .ok (.ifCond .eq 14, 3) := by decide +kernel
theorem dX12_refuse__13 : decode cX12_refuse_ 13 = .ok (.aload_n 0, 1) := by decide +kernel
theorem dX12_refuse__14 : decode cX12_refuse_ 14 = .ok (.iconst 3, 1) := by decide +kernel
theorem dX12_refuse__15 : decode cX12_refuse_ 15 = .ok (.iload_n 1, 1) := by decide +kernel
theorem dX12_refuse__16 : decode cX12_refuse_ 16 = .ok (.iconst 0, 1) := by decide +kernel
theorem dX12_refuse__17 : decode cX12_refuse_ 17 = .ok (.iconst 0, 1) := by decide +kernel
theorem dX12_refuse__18 : decode cX12_refuse_ 18 = .ok (.invokevirtual 289, 3) := by decide +kernel
theorem dX12_refuse__21 : decode cX12_refuse_ 21 = .ok (.goto 4, 3) := by decide +kernel
theorem dX12_refuse__24 : decode cX12_refuse_ 24 = .ok (.iconst (-1), 1) := by decide +kernel
theorem dX12_refuse__25 : decode cX12_refuse_ 25 = .ok (.ireturn, 1) := by decide +kernel
theorem dX12_rise_0 : decode cX12_rise 0 = .ok (.aload_n 0, 1) := by decide +kernel
theorem dX12_rise_1 : decode cX12_rise 1 = .ok (.iconst 0, 1) := by decide +kernel
theorem dX12_rise_2 : decode cX12_rise 2 = .ok (.putfield 82, 3) := by decide +kernel
theorem dX12_rise_5 : decode cX12_rise 5 = .ok (.aload_n 0, 1) := by decide +kernel
theorem dX12_rise_6 : decode cX12_rise 6 = .ok (.iload_n 1, 1) := by decide +kernel
theorem dX12_rise_7 : decode cX12_rise 7 = .ok (.invokevirtual 238, 3) := by decide +kernel
theorem dX12_rise_10 : decode cX12_rise 10 = .ok (.ifCond .eq 14, 3) := by decide +kernel
theorem dX12_rise_13 : decode cX12_rise 13 = .ok (.aload_n 0, 1) := by decide +kernel
theorem dX12_rise_14 : decode cX12_rise 14 = .ok (.iconst 2, 1) := by decide +kernel
theorem dX12_rise_15 : decode cX12_rise 15 = .ok (.iload_n 1, 1) := by decide +kernel
theorem dX12_rise_16 : decode cX12_rise 16 = .ok (.iconst 0, 1) := by decide +kernel
theorem dX12_rise_17 : decode cX12_rise 17 = .ok (.iconst 0, 1) := by decide +kernel
theorem dX12_rise_18 : decode cX12_rise 18 = .ok (.invokevirtual 289, 3) := by decide +kernel
theorem dX12_rise_21 : decode cX12_rise 21 = .ok (.goto 4, 3) := by decide +kernel
theorem dX12_rise_24 : decode cX12_rise 24 = .ok (.iconst (-1), 1) := by decide +kernel
theorem dX12_rise_25 : decode cX12_rise 25 = .ok (.ireturn, 1) := by decide +kernel
theorem dX12_serve_0 : decode cX12_serve 0 = .ok (.aload_n 0, 1) := by decide +kernel
theorem dX12_serve_1 : decode cX12_serve 1 = .ok (.iconst 0, 1) := by decide +kernel
theorem dX12_serve_2 : decode cX12_serve 2 = .ok (.putfield 82, 3) := by decide +kernel
theorem dX12_serve_5 : decode cX12_serve 5 = .ok (.aload_n 0, 1) := by decide +kernel
theorem dX12_serve_6 : decode cX12_serve 6 = .ok (.iload_n 1, 1) := by decide +kernel
theorem dX12_serve_7 : decode cX12_serve 7 = .ok (.invokevirtual 238, 3) := by decide +kernel
theorem dX12_serve_10 : decode cX12_serve 10 = .ok (.ifCond .eq 32, 3) := by decide +kernel
theorem dX12_serve_13 : decode cX12_serve 13 = .ok (.aload_n 0, 1) := by decide +kernel
theorem dX12_serve_14 : decode cX12_serve 14 = .ok (.iload_n 2, 1) := by decide +kernel
theorem dX12_serve_15 : decode cX12_serve 15 = .ok (.invokevirtual 250, 3) := by decide +kernel
theorem dX12_serve_18 : decode cX12_serve 18 = .ok (.ifCond .eq 24, 3) := by decide +kernel
theorem dX12_serve_21 : decode cX12_serve 21 = .ok (.iload_n 3, 1) := by decide +kernel
theorem dX12_serve_22 : decode cX12_serve 22 = .ok (.iconst 1, 1) := by decide +kernel
theorem dX12_serve_23 : decode cX12_serve 23 = .ok (.bipush 40, 2) := by decide +kernel
theorem dX12_serve_25 : decode cX12_serve 25 = .ok (.invokestatic 149, 3) := by decide +kernel
theorem dX12_serve_28 : decode cX12_serve 28 = .ok (.ifCond .eq 14, 3) := by decide +kernel
theorem dX12_serve_31 : decode cX12_serve 31 = .ok (.aload_n 0, 1) := by decide +kernel
theorem dX12_serve_32 : decode cX12_serve 32 = .ok (.iconst 1, 1) := by decide +kernel
theorem dX12_serve_33 : decode cX12_serve 33 = .ok (.iload_n 1, 1) := by decide +kernel
theorem dX12_serve_34 : decode cX12_serve 34 = .ok (.iload_n 2, 1) := by decide +kernel
theorem dX12_serve_35 : decode cX12_serve 35 = .ok (.iload_n 3, 1) := by decide +kernel
theorem dX12_serve_36 : decode cX12_serve 36 = .ok (.invokevirtual 289, 3) := by decide +kernel
theorem dX12_serve_39 : decode cX12_serve 39 = .ok (.goto 4, 3) := by decide +kernel
theorem dX12_serve_42 : decode cX12_serve 42 = .ok (.iconst (-1), 1) := by decide +kernel
theorem dX12_serve_43 : decode cX12_serve 43 = .ok (.ireturn, 1) := by decide +kernel
theorem dX12_undo_0 : decode cX12_undo 0 = .ok (.aload_n 0, 1) := by decide +kernel
theorem dX12_undo_1 : decode cX12_undo 1 = .ok (.iconst 0, 1) := by decide +kernel
theorem dX12_undo_2 : decode cX12_undo 2 = .ok (.putfield 82, 3) := by decide +kernel
theorem dX12_undo_5 : decode cX12_undo 5 = .ok (.aload_n 0, 1) := by decide +kernel
theorem dX12_undo_6 : decode cX12_undo 6 = .ok (.getfield 228, 3) := by decide +kernel
theorem dX12_undo_9 : decode cX12_undo 9 = .ok (.ifCond .ne 5, 3) := by decide +kernel
theorem dX12_undo_12 : decode cX12_undo 12 = .ok (.iconst (-1), 1) := by decide +kernel
theorem dX12_undo_13 : decode cX12_undo 13 = .ok (.ireturn, 1) := by decide +kernel
theorem dX12_undo_14 : decode cX12_undo 14 = .ok (.aload_n 0, 1) := by decide +kernel
theorem dX12_undo_15 : decode cX12_undo 15 = .ok (.dup, 1) := by decide +kernel
theorem dX12_undo_16 : decode cX12_undo 16 = .ok (.getfield 228, 3) := by decide +kernel
theorem dX12_undo_19 : decode cX12_undo 19 = .ok (.iconst 1, 1) := by decide +kernel
theorem dX12_undo_20 : decode cX12_undo 20 = .ok (.isub, 1) := by decide +kernel
theorem dX12_undo_21 : decode cX12_undo 21 = .ok (.putfield 228, 3) := by decide +kernel
theorem dX12_undo_24 : decode cX12_undo 24 = .ok (.iconst 0, 1) := by decide +kernel
theorem dX12_undo_25 : decode cX12_undo 25 = .ok (.istore_n 1, 1) := by decide +kernel
theorem dX12_undo_26 : decode cX12_undo 26 = .ok (.iload_n 1, 1) := by decide +kernel
theorem dX12_undo_27 : decode cX12_undo 27 = .ok (.bipush 75, 2) := by decide +kernel
theorem dX12_undo_29 : decode cX12_undo 29 = .ok (.if_icmp .ge 32, 3) := by decide +kernel
theorem dX12_undo_32 : decode cX12_undo 32 = .ok (.aload_n 0, 1) := by decide +kernel
theorem dX12_undo_33 : decode cX12_undo 33 = .ok (.getfield 13, 3) := by decide +kernel
theorem dX12_undo_36 : decode cX12_undo 36 = .ok (.bipush 72, 2) := by decide +kernel
theorem dX12_undo_38 : decode cX12_undo 38 = .ok (.iload_n 1, 1) := by decide +kernel
theorem dX12_undo_39 : decode cX12_undo 39 = .ok (.iadd, 1) := by decide +kernel
theorem dX12_undo_40 : decode cX12_undo 40 = .ok (.aload_n 0, 1) := by decide +kernel
theorem dX12_undo_41 : decode cX12_undo 41 = .ok (.getfield 22, 3) := by decide +kernel
theorem dX12_undo_44 : decode cX12_undo 44 = .ok (.bipush 75, 2) := by decide +kernel
theorem dX12_undo_46 : decode cX12_undo 46 = .ok (.aload_n 0, 1) := by decide +kernel
theorem dX12_undo_47 : decode cX12_undo 47 = .ok (.getfield 228, 3) := by decide +kernel
theorem dX12_undo_50 : decode cX12_undo 50 = .ok (.imul, 1) := by decide +kernel
theorem dX12_undo_51 : decode cX12_undo 51 = .ok (.iload_n 1, 1) := by decide +kernel
theorem dX12_undo_52 : decode cX12_undo 52 = .ok (.iadd, 1) := by decide +kernel
theorem dX12_undo_53 : decode cX12_undo 53 = .ok (.iaload, 1) := by decide +kernel
theorem dX12_undo_54 : decode cX12_undo 54 = .ok (.iastore, 1) := by decide +kernel
theorem dX12_undo_55 : decode cX12_undo 55 = .ok (.iinc 1 1, 3) := by decide +kernel
theorem dX12_undo_58 : decode cX12_undo 58 = .ok (.goto (-32), 3) := by decide +kernel
theorem dX12_undo_61 : decode cX12_undo 61 = .ok (.aload_n 0, 1) := by decide +kernel
theorem dX12_undo_62 : decode cX12_undo 62 = .ok (.getfield 228, 3) := by decide +kernel
theorem dX12_undo_65 : decode cX12_undo 65 = .ok (.ireturn, 1) := by decide +kernel
set_option maxRecDepth 100000 in
set_option maxHeartbeats 8000000 in
theorem c_X12_eat {l : Launch} {D : va_G} {cy : Nat → ClassId} {L : List Nat} {κ ln : Nat → Nat} {R : Nat → Nat → Option Nat} {I : Nat → Nat → Int32} {J : Nat → Nat → Int64} {ow : Nat → Nat × Nat} (W9 : ∀ a ∈ L, Shp L κ ln R ow a) {x : Nat} (hLx : x ∈ L) (hkx : κ x = 12) (a0 : Int32) (a1 : Int32) (a2 : Int32) (hU : Iw L κ R ow I) : CtI l yX12_eat cX12_eat 4 (some .int) { frames := 6, cells := 0, slots := 0, locals := 145 } D cy L κ ln R I J [.ref x, .int a0, .int a1, .int a2] (fun r I2 J2 => Iw L κ R ow I2 ∧ Fq L κ ow [1200, 1223, 83400, 83700] I I2 ∧ Fq L κ ow [] J J2 ∧ Rg (-1) 3 r ∧ (Hd_ R x I I2)) := by
  refine CtI.of (by decide +kernel) (Nat.le_of_ble_eq_true rfl) ?_
  intro p e s m below meth c B K
  have C := B.1
  have hF : Fq L κ ow [1200, 1223, 83400, 83700] I I := fq_rf
  have hG : Fq L κ ow [] J J := fq_rf
  refine g_lo (is := [0, 1, 2, 3]) (lo2 := [(0, .ref x), (1, .int a0), (2, .int a1), (3, .int a2)]) rfl ?_
  refine g_aload_n C 0 dX12_eat_0 rfl rfl ?_
  refine g_iconst C (v := 0) dX12_eat_1 (by decide) ?_
  refine h_putI C K hLx hkx f_12_82 p_12_0 dX12_eat_2 (fun I_1 hI_1 => ?_)
  have hU_2 := iw_put W9 hU hI_1 (ro_o hkx (by decide)) (lo := (-2147483648)) (hi := 2147483647) (rfl) (rg_all _) rfl
  have hF_3 := fq_puto hF hI_1 hkx (by decide) (by decide)
  refine g_aload_n C 0 dX12_eat_5 rfl rfl ?_
  refine g_iload_n C 1 dX12_eat_6 rfl rfl ?_
  refine g_callVI C K (c_X12_isPerson W9 hLx hkx a0  hU_2) hLx hkx (by decide) rfl v_12_238 rfl ⟨rfl, rfl⟩ ⟨Nat.le_of_ble_eq_true rfl, Nat.le_of_ble_eq_true rfl⟩ (Nat.le_of_ble_eq_true rfl) ⟨Nat.le_of_ble_eq_true rfl, Nat.le_of_ble_eq_true rfl⟩ dX12_eat_7 rfl (st := []) (fun x_4 I_5 J_6 h_7 => ?_)
  obtain ⟨rfl, rfl, rx_4, ex_4⟩ := h_7
  refine g_if_eq C (tgt := 42) dX12_eat_10 (by decide) (fun h_8 => ?_) (fun h_8 => ?_)
  · skip
    have r_9 := (⟨(rx_4).1, (eq_rg (h_8) rc_0).2⟩ : Rg 0 0 x_4)
    refine g_iconst C (v := (-1)) dX12_eat_42 (by decide) ?_
    exact g_zret (ty := .int) (r := (-1)) B K rfl (rfl) ⟨hU_2, hF_3, hG, rg_w rc_m1 (by decide) (by decide), (hd_u (r := 0) W9 hLx hkx hd_rf hI_1 (Or.inl (ro_o hkx (by decide))))⟩ dX12_eat_43
  · skip
    have n_10 : ¬ x_4 = 0 := h_8
    have r_11 := ne_lo (lo := 1) n_10 rx_4 rc_0 rfl (by decide)
    have r_12 := rg_i (rg_all a0) ((ex_4) n_10) (lo := 0) (hi := 6) (by decide) (by decide)
    refine g_aload_n C 0 dX12_eat_13 rfl rfl ?_
    refine g_iload_n C 2 dX12_eat_14 rfl rfl ?_
    refine g_callVI C K (c_X12_isDish W9 hLx hkx a1  hU_2) hLx hkx (by decide) rfl v_12_250 rfl ⟨rfl, rfl⟩ ⟨Nat.le_of_ble_eq_true rfl, Nat.le_of_ble_eq_true rfl⟩ (Nat.le_of_ble_eq_true rfl) ⟨Nat.le_of_ble_eq_true rfl, Nat.le_of_ble_eq_true rfl⟩ dX12_eat_15 rfl (st := []) (fun x_13 I_14 J_15 h_16 => ?_)
    obtain ⟨rfl, rfl, rx_13, ex_13⟩ := h_16
    refine g_if_eq C (tgt := 42) dX12_eat_18 (by decide) (fun h_17 => ?_) (fun h_17 => ?_)
    · skip
      have r_18 := (⟨(rx_13).1, (eq_rg (h_17) rc_0).2⟩ : Rg 0 0 x_13)
      refine g_iconst C (v := (-1)) dX12_eat_42 (by decide) ?_
      exact g_zret (ty := .int) (r := (-1)) B K rfl (rfl) ⟨hU_2, hF_3, hG, rg_w rc_m1 (by decide) (by decide), (hd_u (r := 0) W9 hLx hkx hd_rf hI_1 (Or.inl (ro_o hkx (by decide))))⟩ dX12_eat_43
    · skip
      have n_19 : ¬ x_13 = 0 := h_17
      have r_20 := ne_lo (lo := 1) n_19 rx_13 rc_0 rfl (by decide)
      have r_21 := rg_i (rg_all a1) ((ex_13) n_19) (lo := 0) (hi := 5) (by decide) (by decide)
      refine g_iload_n C 3 dX12_eat_21 rfl rfl ?_
      refine g_iconst C (v := 1) dX12_eat_22 (by decide) ?_
      refine g_bipush C (v := 20) dX12_eat_23 (by decide) ?_
      refine g_callSI C K (c_X12_isIn W9 a2 1 20 (rg_w rc_1 (by decide) (by decide)) (rg_w rc_20 (by decide) (by decide)) hU_2) s_12_149 rfl ⟨rfl, rfl⟩ ⟨Nat.le_of_ble_eq_true rfl, Nat.le_of_ble_eq_true rfl⟩ (Nat.le_of_ble_eq_true rfl) ⟨Nat.le_of_ble_eq_true rfl, Nat.le_of_ble_eq_true rfl⟩ dX12_eat_25 rfl (st := []) (fun x_22 I_23 J_24 h_25 => ?_)
      obtain ⟨rfl, rfl, rx_22, fx_22, ex_22⟩ := h_25
      refine g_if_eq C (tgt := 42) dX12_eat_28 (by decide) (fun h_26 => ?_) (fun h_26 => ?_)
      · skip
        have r_27 := (⟨(rx_22).1, (eq_rg (h_26) rc_0).2⟩ : Rg 0 0 x_22)
        refine g_iconst C (v := (-1)) dX12_eat_42 (by decide) ?_
        exact g_zret (ty := .int) (r := (-1)) B K rfl (rfl) ⟨hU_2, hF_3, hG, rg_w rc_m1 (by decide) (by decide), (hd_u (r := 0) W9 hLx hkx hd_rf hI_1 (Or.inl (ro_o hkx (by decide))))⟩ dX12_eat_43
      · skip
        have n_28 : ¬ x_22 = 0 := h_26
        have r_29 := ne_lo (lo := 1) n_28 rx_22 rc_0 rfl (by decide)
        have r_30 := le_r (((ex_22.1) n_28)) rc_1 (rg_all a2)
        have r_31 := le_l (((ex_22.2) n_28)) r_30 rc_20
        refine g_aload_n C 0 dX12_eat_31 rfl rfl ?_
        refine g_iconst C (v := 0) dX12_eat_32 (by decide) ?_
        refine g_iload_n C 1 dX12_eat_33 rfl rfl ?_
        refine g_iload_n C 2 dX12_eat_34 rfl rfl ?_
        refine g_iload_n C 3 dX12_eat_35 rfl rfl ?_
        refine g_callVI C K (c_X12_act W9 hLx hkx 0 a0 a1 a2 (rg_w rc_0 (by decide) (by decide)) (r_12) (r_21) (rg_w r_31 (by decide) (by decide)) hU_2) hLx hkx (by decide) rfl v_12_289 rfl ⟨rfl, rfl⟩ ⟨Nat.le_of_ble_eq_true rfl, Nat.le_of_ble_eq_true rfl⟩ (Nat.le_of_ble_eq_true rfl) ⟨Nat.le_of_ble_eq_true rfl, Nat.le_of_ble_eq_true rfl⟩ dX12_eat_36 rfl (st := []) (fun x_32 I_33 J_34 h_35 => ?_)
        obtain ⟨hUI_33, hFI_33, hGJ_34, rx_32, ex_32⟩ := h_35
        have hF_36 := fq_tr hF_3 hFI_33 (by decide)
        have hG_37 := fq_tr hG hGJ_34 (by decide)
        refine g_goto C (tgt := 43) dX12_eat_39 (by decide) ?_
        exact g_zret (ty := .int) (r := x_32) B K rfl (rfl) ⟨hUI_33, hF_36, hG_37, rg_w rx_32 (by decide) (by decide), (hd_t (hd_u (r := 0) W9 hLx hkx hd_rf hI_1 (Or.inl (ro_o hkx (by decide)))) ex_32)⟩ dX12_eat_43
set_option maxRecDepth 100000 in
set_option maxHeartbeats 8000000 in
theorem c_X12_serve {l : Launch} {D : va_G} {cy : Nat → ClassId} {L : List Nat} {κ ln : Nat → Nat} {R : Nat → Nat → Option Nat} {I : Nat → Nat → Int32} {J : Nat → Nat → Int64} {ow : Nat → Nat × Nat} (W9 : ∀ a ∈ L, Shp L κ ln R ow a) {x : Nat} (hLx : x ∈ L) (hkx : κ x = 12) (a0 : Int32) (a1 : Int32) (a2 : Int32) (hU : Iw L κ R ow I) : CtI l yX12_serve cX12_serve 4 (some .int) { frames := 6, cells := 0, slots := 0, locals := 145 } D cy L κ ln R I J [.ref x, .int a0, .int a1, .int a2] (fun r I2 J2 => Iw L κ R ow I2 ∧ Fq L κ ow [1200, 1223, 83400, 83700] I I2 ∧ Fq L κ ow [] J J2 ∧ Rg (-1) 3 r ∧ (Hd_ R x I I2)) := by
  refine CtI.of (by decide +kernel) (Nat.le_of_ble_eq_true rfl) ?_
  intro p e s m below meth c B K
  have C := B.1
  have hF : Fq L κ ow [1200, 1223, 83400, 83700] I I := fq_rf
  have hG : Fq L κ ow [] J J := fq_rf
  refine g_lo (is := [0, 1, 2, 3]) (lo2 := [(0, .ref x), (1, .int a0), (2, .int a1), (3, .int a2)]) rfl ?_
  refine g_aload_n C 0 dX12_serve_0 rfl rfl ?_
  refine g_iconst C (v := 0) dX12_serve_1 (by decide) ?_
  refine h_putI C K hLx hkx f_12_82 p_12_0 dX12_serve_2 (fun I_1 hI_1 => ?_)
  have hU_2 := iw_put W9 hU hI_1 (ro_o hkx (by decide)) (lo := (-2147483648)) (hi := 2147483647) (rfl) (rg_all _) rfl
  have hF_3 := fq_puto hF hI_1 hkx (by decide) (by decide)
  refine g_aload_n C 0 dX12_serve_5 rfl rfl ?_
  refine g_iload_n C 1 dX12_serve_6 rfl rfl ?_
  refine g_callVI C K (c_X12_isPerson W9 hLx hkx a0  hU_2) hLx hkx (by decide) rfl v_12_238 rfl ⟨rfl, rfl⟩ ⟨Nat.le_of_ble_eq_true rfl, Nat.le_of_ble_eq_true rfl⟩ (Nat.le_of_ble_eq_true rfl) ⟨Nat.le_of_ble_eq_true rfl, Nat.le_of_ble_eq_true rfl⟩ dX12_serve_7 rfl (st := []) (fun x_4 I_5 J_6 h_7 => ?_)
  obtain ⟨rfl, rfl, rx_4, ex_4⟩ := h_7
  refine g_if_eq C (tgt := 42) dX12_serve_10 (by decide) (fun h_8 => ?_) (fun h_8 => ?_)
  · skip
    have r_9 := (⟨(rx_4).1, (eq_rg (h_8) rc_0).2⟩ : Rg 0 0 x_4)
    refine g_iconst C (v := (-1)) dX12_serve_42 (by decide) ?_
    exact g_zret (ty := .int) (r := (-1)) B K rfl (rfl) ⟨hU_2, hF_3, hG, rg_w rc_m1 (by decide) (by decide), (hd_u (r := 0) W9 hLx hkx hd_rf hI_1 (Or.inl (ro_o hkx (by decide))))⟩ dX12_serve_43
  · skip
    have n_10 : ¬ x_4 = 0 := h_8
    have r_11 := ne_lo (lo := 1) n_10 rx_4 rc_0 rfl (by decide)
    have r_12 := rg_i (rg_all a0) ((ex_4) n_10) (lo := 0) (hi := 6) (by decide) (by decide)
    refine g_aload_n C 0 dX12_serve_13 rfl rfl ?_
    refine g_iload_n C 2 dX12_serve_14 rfl rfl ?_
    refine g_callVI C K (c_X12_isDish W9 hLx hkx a1  hU_2) hLx hkx (by decide) rfl v_12_250 rfl ⟨rfl, rfl⟩ ⟨Nat.le_of_ble_eq_true rfl, Nat.le_of_ble_eq_true rfl⟩ (Nat.le_of_ble_eq_true rfl) ⟨Nat.le_of_ble_eq_true rfl, Nat.le_of_ble_eq_true rfl⟩ dX12_serve_15 rfl (st := []) (fun x_13 I_14 J_15 h_16 => ?_)
    obtain ⟨rfl, rfl, rx_13, ex_13⟩ := h_16
    refine g_if_eq C (tgt := 42) dX12_serve_18 (by decide) (fun h_17 => ?_) (fun h_17 => ?_)
    · skip
      have r_18 := (⟨(rx_13).1, (eq_rg (h_17) rc_0).2⟩ : Rg 0 0 x_13)
      refine g_iconst C (v := (-1)) dX12_serve_42 (by decide) ?_
      exact g_zret (ty := .int) (r := (-1)) B K rfl (rfl) ⟨hU_2, hF_3, hG, rg_w rc_m1 (by decide) (by decide), (hd_u (r := 0) W9 hLx hkx hd_rf hI_1 (Or.inl (ro_o hkx (by decide))))⟩ dX12_serve_43
    · skip
      have n_19 : ¬ x_13 = 0 := h_17
      have r_20 := ne_lo (lo := 1) n_19 rx_13 rc_0 rfl (by decide)
      have r_21 := rg_i (rg_all a1) ((ex_13) n_19) (lo := 0) (hi := 5) (by decide) (by decide)
      refine g_iload_n C 3 dX12_serve_21 rfl rfl ?_
      refine g_iconst C (v := 1) dX12_serve_22 (by decide) ?_
      refine g_bipush C (v := 40) dX12_serve_23 (by decide) ?_
      refine g_callSI C K (c_X12_isIn W9 a2 1 40 (rg_w rc_1 (by decide) (by decide)) (rg_w rc_40 (by decide) (by decide)) hU_2) s_12_149 rfl ⟨rfl, rfl⟩ ⟨Nat.le_of_ble_eq_true rfl, Nat.le_of_ble_eq_true rfl⟩ (Nat.le_of_ble_eq_true rfl) ⟨Nat.le_of_ble_eq_true rfl, Nat.le_of_ble_eq_true rfl⟩ dX12_serve_25 rfl (st := []) (fun x_22 I_23 J_24 h_25 => ?_)
      obtain ⟨rfl, rfl, rx_22, fx_22, ex_22⟩ := h_25
      refine g_if_eq C (tgt := 42) dX12_serve_28 (by decide) (fun h_26 => ?_) (fun h_26 => ?_)
      · skip
        have r_27 := (⟨(rx_22).1, (eq_rg (h_26) rc_0).2⟩ : Rg 0 0 x_22)
        refine g_iconst C (v := (-1)) dX12_serve_42 (by decide) ?_
        exact g_zret (ty := .int) (r := (-1)) B K rfl (rfl) ⟨hU_2, hF_3, hG, rg_w rc_m1 (by decide) (by decide), (hd_u (r := 0) W9 hLx hkx hd_rf hI_1 (Or.inl (ro_o hkx (by decide))))⟩ dX12_serve_43
      · skip
        have n_28 : ¬ x_22 = 0 := h_26
        have r_29 := ne_lo (lo := 1) n_28 rx_22 rc_0 rfl (by decide)
        have r_30 := le_r (((ex_22.1) n_28)) rc_1 (rg_all a2)
        have r_31 := le_l (((ex_22.2) n_28)) r_30 rc_40
        refine g_aload_n C 0 dX12_serve_31 rfl rfl ?_
        refine g_iconst C (v := 1) dX12_serve_32 (by decide) ?_
        refine g_iload_n C 1 dX12_serve_33 rfl rfl ?_
        refine g_iload_n C 2 dX12_serve_34 rfl rfl ?_
        refine g_iload_n C 3 dX12_serve_35 rfl rfl ?_
        refine g_callVI C K (c_X12_act W9 hLx hkx 1 a0 a1 a2 (rg_w rc_1 (by decide) (by decide)) (r_12) (r_21) (rg_w r_31 (by decide) (by decide)) hU_2) hLx hkx (by decide) rfl v_12_289 rfl ⟨rfl, rfl⟩ ⟨Nat.le_of_ble_eq_true rfl, Nat.le_of_ble_eq_true rfl⟩ (Nat.le_of_ble_eq_true rfl) ⟨Nat.le_of_ble_eq_true rfl, Nat.le_of_ble_eq_true rfl⟩ dX12_serve_36 rfl (st := []) (fun x_32 I_33 J_34 h_35 => ?_)
        obtain ⟨hUI_33, hFI_33, hGJ_34, rx_32, ex_32⟩ := h_35
        have hF_36 := fq_tr hF_3 hFI_33 (by decide)
        have hG_37 := fq_tr hG hGJ_34 (by decide)
        refine g_goto C (tgt := 43) dX12_serve_39 (by decide) ?_
        exact g_zret (ty := .int) (r := x_32) B K rfl (rfl) ⟨hUI_33, hF_36, hG_37, rg_w rx_32 (by decide) (by decide), (hd_t (hd_u (r := 0) W9 hLx hkx hd_rf hI_1 (Or.inl (ro_o hkx (by decide)))) ex_32)⟩ dX12_serve_43
set_option maxRecDepth 100000 in
set_option maxHeartbeats 8000000 in
theorem c_X12_rise {l : Launch} {D : va_G} {cy : Nat → ClassId} {L : List Nat} {κ ln : Nat → Nat} {R : Nat → Nat → Option Nat} {I : Nat → Nat → Int32} {J : Nat → Nat → Int64} {ow : Nat → Nat × Nat} (W9 : ∀ a ∈ L, Shp L κ ln R ow a) {x : Nat} (hLx : x ∈ L) (hkx : κ x = 12) (a0 : Int32) (hU : Iw L κ R ow I) : CtI l yX12_rise cX12_rise 2 (some .int) { frames := 6, cells := 0, slots := 0, locals := 145 } D cy L κ ln R I J [.ref x, .int a0] (fun r I2 J2 => Iw L κ R ow I2 ∧ Fq L κ ow [1200, 1223, 83400, 83700] I I2 ∧ Fq L κ ow [] J J2 ∧ Rg (-1) 3 r ∧ (Hd_ R x I I2)) := by
  refine CtI.of (by decide +kernel) (Nat.le_of_ble_eq_true rfl) ?_
  intro p e s m below meth c B K
  have C := B.1
  have hF : Fq L κ ow [1200, 1223, 83400, 83700] I I := fq_rf
  have hG : Fq L κ ow [] J J := fq_rf
  refine g_lo (is := [0, 1]) (lo2 := [(0, .ref x), (1, .int a0)]) rfl ?_
  refine g_aload_n C 0 dX12_rise_0 rfl rfl ?_
  refine g_iconst C (v := 0) dX12_rise_1 (by decide) ?_
  refine h_putI C K hLx hkx f_12_82 p_12_0 dX12_rise_2 (fun I_1 hI_1 => ?_)
  have hU_2 := iw_put W9 hU hI_1 (ro_o hkx (by decide)) (lo := (-2147483648)) (hi := 2147483647) (rfl) (rg_all _) rfl
  have hF_3 := fq_puto hF hI_1 hkx (by decide) (by decide)
  refine g_aload_n C 0 dX12_rise_5 rfl rfl ?_
  refine g_iload_n C 1 dX12_rise_6 rfl rfl ?_
  refine g_callVI C K (c_X12_isPerson W9 hLx hkx a0  hU_2) hLx hkx (by decide) rfl v_12_238 rfl ⟨rfl, rfl⟩ ⟨Nat.le_of_ble_eq_true rfl, Nat.le_of_ble_eq_true rfl⟩ (Nat.le_of_ble_eq_true rfl) ⟨Nat.le_of_ble_eq_true rfl, Nat.le_of_ble_eq_true rfl⟩ dX12_rise_7 rfl (st := []) (fun x_4 I_5 J_6 h_7 => ?_)
  obtain ⟨rfl, rfl, rx_4, ex_4⟩ := h_7
  refine g_if_eq C (tgt := 24) dX12_rise_10 (by decide) (fun h_8 => ?_) (fun h_8 => ?_)
  · skip
    have r_9 := (⟨(rx_4).1, (eq_rg (h_8) rc_0).2⟩ : Rg 0 0 x_4)
    refine g_iconst C (v := (-1)) dX12_rise_24 (by decide) ?_
    exact g_zret (ty := .int) (r := (-1)) B K rfl (rfl) ⟨hU_2, hF_3, hG, rg_w rc_m1 (by decide) (by decide), (hd_u (r := 0) W9 hLx hkx hd_rf hI_1 (Or.inl (ro_o hkx (by decide))))⟩ dX12_rise_25
  · skip
    have n_10 : ¬ x_4 = 0 := h_8
    have r_11 := ne_lo (lo := 1) n_10 rx_4 rc_0 rfl (by decide)
    have r_12 := rg_i (rg_all a0) ((ex_4) n_10) (lo := 0) (hi := 6) (by decide) (by decide)
    refine g_aload_n C 0 dX12_rise_13 rfl rfl ?_
    refine g_iconst C (v := 2) dX12_rise_14 (by decide) ?_
    refine g_iload_n C 1 dX12_rise_15 rfl rfl ?_
    refine g_iconst C (v := 0) dX12_rise_16 (by decide) ?_
    refine g_iconst C (v := 0) dX12_rise_17 (by decide) ?_
    refine g_callVI C K (c_X12_act W9 hLx hkx 2 a0 0 0 (rg_w rc_2 (by decide) (by decide)) (r_12) (rg_w rc_0 (by decide) (by decide)) (rg_w rc_0 (by decide) (by decide)) hU_2) hLx hkx (by decide) rfl v_12_289 rfl ⟨rfl, rfl⟩ ⟨Nat.le_of_ble_eq_true rfl, Nat.le_of_ble_eq_true rfl⟩ (Nat.le_of_ble_eq_true rfl) ⟨Nat.le_of_ble_eq_true rfl, Nat.le_of_ble_eq_true rfl⟩ dX12_rise_18 rfl (st := []) (fun x_13 I_14 J_15 h_16 => ?_)
    obtain ⟨hUI_14, hFI_14, hGJ_15, rx_13, ex_13⟩ := h_16
    have hF_17 := fq_tr hF_3 hFI_14 (by decide)
    have hG_18 := fq_tr hG hGJ_15 (by decide)
    refine g_goto C (tgt := 25) dX12_rise_21 (by decide) ?_
    exact g_zret (ty := .int) (r := x_13) B K rfl (rfl) ⟨hUI_14, hF_17, hG_18, rg_w rx_13 (by decide) (by decide), (hd_t (hd_u (r := 0) W9 hLx hkx hd_rf hI_1 (Or.inl (ro_o hkx (by decide)))) ex_13)⟩ dX12_rise_25
set_option maxRecDepth 100000 in
set_option maxHeartbeats 8000000 in
theorem c_X12_refuse_ {l : Launch} {D : va_G} {cy : Nat → ClassId} {L : List Nat} {κ ln : Nat → Nat} {R : Nat → Nat → Option Nat} {I : Nat → Nat → Int32} {J : Nat → Nat → Int64} {ow : Nat → Nat × Nat} (W9 : ∀ a ∈ L, Shp L κ ln R ow a) {x : Nat} (hLx : x ∈ L) (hkx : κ x = 12) (a0 : Int32) (hU : Iw L κ R ow I) : CtI l yX12_refuse_ cX12_refuse_ 2 (some .int) { frames := 6, cells := 0, slots := 0, locals := 145 } D cy L κ ln R I J [.ref x, .int a0] (fun r I2 J2 => Iw L κ R ow I2 ∧ Fq L κ ow [1200, 1223, 83400, 83700] I I2 ∧ Fq L κ ow [] J J2 ∧ Rg (-1) 3 r ∧ (Hd_ R x I I2)) := by
  refine CtI.of (by decide +kernel) (Nat.le_of_ble_eq_true rfl) ?_
  intro p e s m below meth c B K
  have C := B.1
  have hF : Fq L κ ow [1200, 1223, 83400, 83700] I I := fq_rf
  have hG : Fq L κ ow [] J J := fq_rf
  refine g_lo (is := [0, 1]) (lo2 := [(0, .ref x), (1, .int a0)]) rfl ?_
  refine g_aload_n C 0 dX12_refuse__0 rfl rfl ?_
  refine g_iconst C (v := 0) dX12_refuse__1 (by decide) ?_
  refine h_putI C K hLx hkx f_12_82 p_12_0 dX12_refuse__2 (fun I_1 hI_1 => ?_)
  have hU_2 := iw_put W9 hU hI_1 (ro_o hkx (by decide)) (lo := (-2147483648)) (hi := 2147483647) (rfl) (rg_all _) rfl
  have hF_3 := fq_puto hF hI_1 hkx (by decide) (by decide)
  refine g_aload_n C 0 dX12_refuse__5 rfl rfl ?_
  refine g_iload_n C 1 dX12_refuse__6 rfl rfl ?_
  refine g_callVI C K (c_X12_isPerson W9 hLx hkx a0  hU_2) hLx hkx (by decide) rfl v_12_238 rfl ⟨rfl, rfl⟩ ⟨Nat.le_of_ble_eq_true rfl, Nat.le_of_ble_eq_true rfl⟩ (Nat.le_of_ble_eq_true rfl) ⟨Nat.le_of_ble_eq_true rfl, Nat.le_of_ble_eq_true rfl⟩ dX12_refuse__7 rfl (st := []) (fun x_4 I_5 J_6 h_7 => ?_)
  obtain ⟨rfl, rfl, rx_4, ex_4⟩ := h_7
  refine g_if_eq C (tgt := 24) dX12_refuse__10 (by decide) (fun h_8 => ?_) (fun h_8 => ?_)
  · skip
    have r_9 := (⟨(rx_4).1, (eq_rg (h_8) rc_0).2⟩ : Rg 0 0 x_4)
    refine g_iconst C (v := (-1)) dX12_refuse__24 (by decide) ?_
    exact g_zret (ty := .int) (r := (-1)) B K rfl (rfl) ⟨hU_2, hF_3, hG, rg_w rc_m1 (by decide) (by decide), (hd_u (r := 0) W9 hLx hkx hd_rf hI_1 (Or.inl (ro_o hkx (by decide))))⟩ dX12_refuse__25
  · skip
    have n_10 : ¬ x_4 = 0 := h_8
    have r_11 := ne_lo (lo := 1) n_10 rx_4 rc_0 rfl (by decide)
    have r_12 := rg_i (rg_all a0) ((ex_4) n_10) (lo := 0) (hi := 6) (by decide) (by decide)
    refine g_aload_n C 0 dX12_refuse__13 rfl rfl ?_
    refine g_iconst C (v := 3) dX12_refuse__14 (by decide) ?_
    refine g_iload_n C 1 dX12_refuse__15 rfl rfl ?_
    refine g_iconst C (v := 0) dX12_refuse__16 (by decide) ?_
    refine g_iconst C (v := 0) dX12_refuse__17 (by decide) ?_
    refine g_callVI C K (c_X12_act W9 hLx hkx 3 a0 0 0 (rg_w rc_3 (by decide) (by decide)) (r_12) (rg_w rc_0 (by decide) (by decide)) (rg_w rc_0 (by decide) (by decide)) hU_2) hLx hkx (by decide) rfl v_12_289 rfl ⟨rfl, rfl⟩ ⟨Nat.le_of_ble_eq_true rfl, Nat.le_of_ble_eq_true rfl⟩ (Nat.le_of_ble_eq_true rfl) ⟨Nat.le_of_ble_eq_true rfl, Nat.le_of_ble_eq_true rfl⟩ dX12_refuse__18 rfl (st := []) (fun x_13 I_14 J_15 h_16 => ?_)
    obtain ⟨hUI_14, hFI_14, hGJ_15, rx_13, ex_13⟩ := h_16
    have hF_17 := fq_tr hF_3 hFI_14 (by decide)
    have hG_18 := fq_tr hG hGJ_15 (by decide)
    refine g_goto C (tgt := 25) dX12_refuse__21 (by decide) ?_
    exact g_zret (ty := .int) (r := x_13) B K rfl (rfl) ⟨hUI_14, hF_17, hG_18, rg_w rx_13 (by decide) (by decide), (hd_t (hd_u (r := 0) W9 hLx hkx hd_rf hI_1 (Or.inl (ro_o hkx (by decide)))) ex_13)⟩ dX12_refuse__25
set_option maxRecDepth 100000 in
set_option maxHeartbeats 8000000 in
theorem c_X12_accept {l : Launch} {D : va_G} {cy : Nat → ClassId} {L : List Nat} {κ ln : Nat → Nat} {R : Nat → Nat → Option Nat} {I : Nat → Nat → Int32} {J : Nat → Nat → Int64} {ow : Nat → Nat × Nat} (W9 : ∀ a ∈ L, Shp L κ ln R ow a) {x : Nat} (hLx : x ∈ L) (hkx : κ x = 12) (a0 : Int32) (hU : Iw L κ R ow I) : CtI l yX12_accept cX12_accept 2 (some .int) { frames := 6, cells := 0, slots := 0, locals := 145 } D cy L κ ln R I J [.ref x, .int a0] (fun r I2 J2 => Iw L κ R ow I2 ∧ Fq L κ ow [1200, 1223, 83400, 83700] I I2 ∧ Fq L κ ow [] J J2 ∧ Rg (-1) 3 r ∧ (Hd_ R x I I2)) := by
  refine CtI.of (by decide +kernel) (Nat.le_of_ble_eq_true rfl) ?_
  intro p e s m below meth c B K
  have C := B.1
  have hF : Fq L κ ow [1200, 1223, 83400, 83700] I I := fq_rf
  have hG : Fq L κ ow [] J J := fq_rf
  refine g_lo (is := [0, 1]) (lo2 := [(0, .ref x), (1, .int a0)]) rfl ?_
  refine g_aload_n C 0 dX12_accept_0 rfl rfl ?_
  refine g_iconst C (v := 0) dX12_accept_1 (by decide) ?_
  refine h_putI C K hLx hkx f_12_82 p_12_0 dX12_accept_2 (fun I_1 hI_1 => ?_)
  have hU_2 := iw_put W9 hU hI_1 (ro_o hkx (by decide)) (lo := (-2147483648)) (hi := 2147483647) (rfl) (rg_all _) rfl
  have hF_3 := fq_puto hF hI_1 hkx (by decide) (by decide)
  refine g_aload_n C 0 dX12_accept_5 rfl rfl ?_
  refine g_iload_n C 1 dX12_accept_6 rfl rfl ?_
  refine g_callVI C K (c_X12_isPerson W9 hLx hkx a0  hU_2) hLx hkx (by decide) rfl v_12_238 rfl ⟨rfl, rfl⟩ ⟨Nat.le_of_ble_eq_true rfl, Nat.le_of_ble_eq_true rfl⟩ (Nat.le_of_ble_eq_true rfl) ⟨Nat.le_of_ble_eq_true rfl, Nat.le_of_ble_eq_true rfl⟩ dX12_accept_7 rfl (st := []) (fun x_4 I_5 J_6 h_7 => ?_)
  obtain ⟨rfl, rfl, rx_4, ex_4⟩ := h_7
  refine g_if_eq C (tgt := 24) dX12_accept_10 (by decide) (fun h_8 => ?_) (fun h_8 => ?_)
  · skip
    have r_9 := (⟨(rx_4).1, (eq_rg (h_8) rc_0).2⟩ : Rg 0 0 x_4)
    refine g_iconst C (v := (-1)) dX12_accept_24 (by decide) ?_
    exact g_zret (ty := .int) (r := (-1)) B K rfl (rfl) ⟨hU_2, hF_3, hG, rg_w rc_m1 (by decide) (by decide), (hd_u (r := 0) W9 hLx hkx hd_rf hI_1 (Or.inl (ro_o hkx (by decide))))⟩ dX12_accept_25
  · skip
    have n_10 : ¬ x_4 = 0 := h_8
    have r_11 := ne_lo (lo := 1) n_10 rx_4 rc_0 rfl (by decide)
    have r_12 := rg_i (rg_all a0) ((ex_4) n_10) (lo := 0) (hi := 6) (by decide) (by decide)
    refine g_aload_n C 0 dX12_accept_13 rfl rfl ?_
    refine g_iconst C (v := 4) dX12_accept_14 (by decide) ?_
    refine g_iload_n C 1 dX12_accept_15 rfl rfl ?_
    refine g_iconst C (v := 0) dX12_accept_16 (by decide) ?_
    refine g_iconst C (v := 0) dX12_accept_17 (by decide) ?_
    refine g_callVI C K (c_X12_act W9 hLx hkx 4 a0 0 0 (rg_w rc_4 (by decide) (by decide)) (r_12) (rg_w rc_0 (by decide) (by decide)) (rg_w rc_0 (by decide) (by decide)) hU_2) hLx hkx (by decide) rfl v_12_289 rfl ⟨rfl, rfl⟩ ⟨Nat.le_of_ble_eq_true rfl, Nat.le_of_ble_eq_true rfl⟩ (Nat.le_of_ble_eq_true rfl) ⟨Nat.le_of_ble_eq_true rfl, Nat.le_of_ble_eq_true rfl⟩ dX12_accept_18 rfl (st := []) (fun x_13 I_14 J_15 h_16 => ?_)
    obtain ⟨hUI_14, hFI_14, hGJ_15, rx_13, ex_13⟩ := h_16
    have hF_17 := fq_tr hF_3 hFI_14 (by decide)
    have hG_18 := fq_tr hG hGJ_15 (by decide)
    refine g_goto C (tgt := 25) dX12_accept_21 (by decide) ?_
    exact g_zret (ty := .int) (r := x_13) B K rfl (rfl) ⟨hUI_14, hF_17, hG_18, rg_w rx_13 (by decide) (by decide), (hd_t (hd_u (r := 0) W9 hLx hkx hd_rf hI_1 (Or.inl (ro_o hkx (by decide)))) ex_13)⟩ dX12_accept_25
set_option maxRecDepth 100000 in
set_option maxHeartbeats 8000000 in
theorem c_X12_die {l : Launch} {D : va_G} {cy : Nat → ClassId} {L : List Nat} {κ ln : Nat → Nat} {R : Nat → Nat → Option Nat} {I : Nat → Nat → Int32} {J : Nat → Nat → Int64} {ow : Nat → Nat × Nat} (W9 : ∀ a ∈ L, Shp L κ ln R ow a) {x : Nat} (hLx : x ∈ L) (hkx : κ x = 12) (a0 : Int32) (hU : Iw L κ R ow I) : CtI l yX12_die cX12_die 2 (some .int) { frames := 6, cells := 0, slots := 0, locals := 145 } D cy L κ ln R I J [.ref x, .int a0] (fun r I2 J2 => Iw L κ R ow I2 ∧ Fq L κ ow [1200, 1223, 83400, 83700] I I2 ∧ Fq L κ ow [] J J2 ∧ Rg (-1) 3 r ∧ (Hd_ R x I I2)) := by
  refine CtI.of (by decide +kernel) (Nat.le_of_ble_eq_true rfl) ?_
  intro p e s m below meth c B K
  have C := B.1
  have hF : Fq L κ ow [1200, 1223, 83400, 83700] I I := fq_rf
  have hG : Fq L κ ow [] J J := fq_rf
  refine g_lo (is := [0, 1]) (lo2 := [(0, .ref x), (1, .int a0)]) rfl ?_
  refine g_aload_n C 0 dX12_die_0 rfl rfl ?_
  refine g_iconst C (v := 0) dX12_die_1 (by decide) ?_
  refine h_putI C K hLx hkx f_12_82 p_12_0 dX12_die_2 (fun I_1 hI_1 => ?_)
  have hU_2 := iw_put W9 hU hI_1 (ro_o hkx (by decide)) (lo := (-2147483648)) (hi := 2147483647) (rfl) (rg_all _) rfl
  have hF_3 := fq_puto hF hI_1 hkx (by decide) (by decide)
  refine g_aload_n C 0 dX12_die_5 rfl rfl ?_
  refine g_iload_n C 1 dX12_die_6 rfl rfl ?_
  refine g_callVI C K (c_X12_isPerson W9 hLx hkx a0  hU_2) hLx hkx (by decide) rfl v_12_238 rfl ⟨rfl, rfl⟩ ⟨Nat.le_of_ble_eq_true rfl, Nat.le_of_ble_eq_true rfl⟩ (Nat.le_of_ble_eq_true rfl) ⟨Nat.le_of_ble_eq_true rfl, Nat.le_of_ble_eq_true rfl⟩ dX12_die_7 rfl (st := []) (fun x_4 I_5 J_6 h_7 => ?_)
  obtain ⟨rfl, rfl, rx_4, ex_4⟩ := h_7
  refine g_if_eq C (tgt := 24) dX12_die_10 (by decide) (fun h_8 => ?_) (fun h_8 => ?_)
  · skip
    have r_9 := (⟨(rx_4).1, (eq_rg (h_8) rc_0).2⟩ : Rg 0 0 x_4)
    refine g_iconst C (v := (-1)) dX12_die_24 (by decide) ?_
    exact g_zret (ty := .int) (r := (-1)) B K rfl (rfl) ⟨hU_2, hF_3, hG, rg_w rc_m1 (by decide) (by decide), (hd_u (r := 0) W9 hLx hkx hd_rf hI_1 (Or.inl (ro_o hkx (by decide))))⟩ dX12_die_25
  · skip
    have n_10 : ¬ x_4 = 0 := h_8
    have r_11 := ne_lo (lo := 1) n_10 rx_4 rc_0 rfl (by decide)
    have r_12 := rg_i (rg_all a0) ((ex_4) n_10) (lo := 0) (hi := 6) (by decide) (by decide)
    refine g_aload_n C 0 dX12_die_13 rfl rfl ?_
    refine g_iconst C (v := 5) dX12_die_14 (by decide) ?_
    refine g_iload_n C 1 dX12_die_15 rfl rfl ?_
    refine g_iconst C (v := 0) dX12_die_16 (by decide) ?_
    refine g_iconst C (v := 0) dX12_die_17 (by decide) ?_
    refine g_callVI C K (c_X12_act W9 hLx hkx 5 a0 0 0 (rg_w rc_5 (by decide) (by decide)) (r_12) (rg_w rc_0 (by decide) (by decide)) (rg_w rc_0 (by decide) (by decide)) hU_2) hLx hkx (by decide) rfl v_12_289 rfl ⟨rfl, rfl⟩ ⟨Nat.le_of_ble_eq_true rfl, Nat.le_of_ble_eq_true rfl⟩ (Nat.le_of_ble_eq_true rfl) ⟨Nat.le_of_ble_eq_true rfl, Nat.le_of_ble_eq_true rfl⟩ dX12_die_18 rfl (st := []) (fun x_13 I_14 J_15 h_16 => ?_)
    obtain ⟨hUI_14, hFI_14, hGJ_15, rx_13, ex_13⟩ := h_16
    have hF_17 := fq_tr hF_3 hFI_14 (by decide)
    have hG_18 := fq_tr hG hGJ_15 (by decide)
    refine g_goto C (tgt := 25) dX12_die_21 (by decide) ?_
    exact g_zret (ty := .int) (r := x_13) B K rfl (rfl) ⟨hUI_14, hF_17, hG_18, rg_w rx_13 (by decide) (by decide), (hd_t (hd_u (r := 0) W9 hLx hkx hd_rf hI_1 (Or.inl (ro_o hkx (by decide)))) ex_13)⟩ dX12_die_25
set_option maxRecDepth 100000 in
set_option maxHeartbeats 8000000 in
theorem c_X12_undo {l : Launch} {D : va_G} {cy : Nat → ClassId} {L : List Nat} {κ ln : Nat → Nat} {R : Nat → Nat → Option Nat} {I : Nat → Nat → Int32} {J : Nat → Nat → Int64} {ow : Nat → Nat × Nat} (W9 : ∀ a ∈ L, Shp L κ ln R ow a) {x : Nat} (hLx : x ∈ L) (hkx : κ x = 12) (hU : Iw L κ R ow I) : CtI l yX12_undo cX12_undo 2 (some .int) { frames := 0, cells := 0, slots := 0, locals := 0 } D cy L κ ln R I J [.ref x] (fun r I2 J2 => Iw L κ R ow I2 ∧ Fq L κ ow [1200, 1223, 83400] I I2 ∧ Fq L κ ow [] J J2 ∧ Rg (-1) 7 r ∧ (Hd_ R x I I2)) := by
  refine CtI.of (by decide +kernel) (Nat.le_of_ble_eq_true rfl) ?_
  intro p e s m below meth c B K
  have C := B.1
  have hF : Fq L κ ow [1200, 1223, 83400] I I := fq_rf
  have hG : Fq L κ ow [] J J := fq_rf
  obtain ⟨b_1, hb_1, hb_1L, hb_1k, hb_1n, hb_1o⟩ := shp_a (W9 x hLx) hkx 17 14 600 rfl (by decide)
  obtain ⟨b_2, hb_2, hb_2L, hb_2k, hb_2n, hb_2o⟩ := shp_a (W9 x hLx) hkx 14 14 389 rfl (by decide)
  refine g_lo (is := [0]) (lo2 := [(0, .ref x)]) rfl ?_
  refine g_aload_n C 0 dX12_undo_0 rfl rfl ?_
  refine g_iconst C (v := 0) dX12_undo_1 (by decide) ?_
  refine h_putI C K hLx hkx f_12_82 p_12_0 dX12_undo_2 (fun I_3 hI_3 => ?_)
  have hU_4 := iw_put W9 hU hI_3 (ro_o hkx (by decide)) (lo := (-2147483648)) (hi := 2147483647) (rfl) (rg_all _) rfl
  have hF_5 := fq_puto hF hI_3 hkx (by decide) (by decide)
  refine g_aload_n C 0 dX12_undo_5 rfl rfl ?_
  obtain ⟨x_6, hx_6, rx_6⟩ := ex_getw (I := I_3) (a := x) (j := 23) (lo := 0) (hi := 8) hU_4.1 hLx (ro_o hkx (by decide)) rfl
  refine g_getI C K hLx hkx f_12_228 (v := x_6) hx_6 dX12_undo_6 ?_
  refine g_if_ne C (tgt := 14) dX12_undo_9 (by decide) (fun h_7 => ?_) (fun h_7 => ?_)
  · skip
    have n_8 : ¬ x_6 = 0 := h_7
    have r_9 := ne_lo (lo := 1) n_8 rx_6 rc_0 rfl (by decide)
    refine g_aload_n C 0 dX12_undo_14 rfl rfl ?_
    refine g_dup C dX12_undo_15 rfl ?_
    refine g_getI C K hLx hkx f_12_228 (v := x_6) hx_6 dX12_undo_16 ?_
    refine g_iconst C (v := 1) dX12_undo_19 (by decide) ?_
    obtain ⟨x_10, hx_10, rx_10, tx_10⟩ := ex_sub 0 7 r_9 rc_1 (by decide) (by decide) (by decide) (by decide)
    refine g_isub C (v := x_10) dX12_undo_20 hx_10 ?_
    refine h_putI C K hLx hkx f_12_228 p_12_23 dX12_undo_21 (fun I_11 hI_11 => ?_)
    have hU_12 := iw_dec W9 hU_4 (uw_put hU_4.1 hI_11 (ro_o hkx (by decide)) (lo := 0) (hi := 8) (rfl) (rg_w rx_10 (by decide) (by decide))) hLx hkx hI_11 (by rw [hx_6]; have := ((ti_s tx_10 rc_1 (by decide)) : x_10.toInt = _ + (-1)); omega)
    have hF_13 := fq_puto hF_5 hI_11 hkx (by decide) (by decide)
    refine g_iconst C (v := 0) dX12_undo_24 (by decide) ?_
    refine g_istore_n C dX12_undo_25 rfl (by decide) (lo2 := [(1, .int 0), (0, .ref x)]) rfl ?_
    refine g_lo (is := [1, 0]) (lo2 := [(0, .ref x), (1, .int 0)]) rfl ?_
    have ex_26 : ∀ (I_15 : Nat → Nat → Int32) (hI_15 : I_15 = cpn_ I_11 b_1 b_2 (75 * x_10.toNatClampNeg) (72) 75) (v_14 : Int32) (rv_14 : Rg 75 75 v_14), WG p l e { frames := 0, cells := 0, slots := 0, locals := 0 } s m ([.ref x] : List Value).toArray below meth c 2 0 0 (MQ below (Qi_ D cy L κ ln R (fun r I2 J2 => Iw L κ R ow I2 ∧ Fq L κ ow [1200, 1223, 83400] I I2 ∧ Fq L κ ow [] J J2 ∧ Rg (-1) 7 r ∧ (Hd_ R x I I2))) ([.ref x] : List Value).toArray s 0 0 (Al_ L)) D cy (Al_ L) s.heap L κ ln R I_15 J 61 [(0, .ref x), (1, .int v_14)] [] := by
      intro I_15 hI_15 v_14 rv_14
      have hF_16 := fq_cpn hF_13 hI_15 (ro_a hb_2k (by decide) hb_2o hkx rfl) (by decide) (by decide)
      have hU_17 := uw_cpn hU_12.1 hb_1L hI_15 (ro_a hb_2k (by decide) hb_2o hkx rfl) (ro_a hb_1k (by decide) hb_1o hkx rfl) (fun i hi => by rw [bn_834, bn_837, show (75 * x_10.toNatClampNeg + i) % 75 = i by omega]; exact ⟨Int.le_refl _, Int.le_refl _⟩)
      have hU_18 := iw_set W9 hU_12.2 hU_17 hLx hkx hb_2 hI_15 (gm_sn W9 hU_4.2 hLx hkx hb_2 hb_1 hI_11 (by rw [hx_6]; have := ((ti_s tx_10 rc_1 (by decide)) : x_10.toInt = _ + (-1)); omega) (rx_10).1)
      refine g_aload_n C 0 dX12_undo_61 rfl rfl ?_
      refine g_getI C K hLx hkx f_12_228 (v := x_10) (kp_cn (κ := κ) hI_15 (by rw [hkx, hb_2k]; decide) (kp_s hI_11)) dX12_undo_62 ?_
      exact g_zret (ty := .int) (r := x_10) B K rfl (rfl) ⟨hU_18, hF_16, hG, rg_w rx_10 (by decide) (by decide), (hd_c (r := 0) W9 hLx hkx (hd_u (r := 0) W9 hLx hkx (hd_u (r := 0) W9 hLx hkx hd_rf hI_3 (Or.inl (ro_o hkx (by decide)))) hI_11 (Or.inl (ro_o hkx (by decide)))) hI_15 (Or.inr (by omega)))⟩ dX12_undo_65
    have l_26 : ∀ (m_26 : Nat) (v_19 : Int32) (I_20 : Nat → Nat → Int32), v_19.toInt + (m_26 : Int) = 75 → 0 ≤ v_19.toInt → I_20 = cpn_ I_11 b_1 b_2 (75 * x_10.toNatClampNeg) (72) v_19.toNatClampNeg → WG p l e { frames := 0, cells := 0, slots := 0, locals := 0 } s m ([.ref x] : List Value).toArray below meth c 2 0 0 (MQ below (Qi_ D cy L κ ln R (fun r I2 J2 => Iw L κ R ow I2 ∧ Fq L κ ow [1200, 1223, 83400] I I2 ∧ Fq L κ ow [] J J2 ∧ Rg (-1) 7 r ∧ (Hd_ R x I I2))) ([.ref x] : List Value).toArray s 0 0 (Al_ L)) D cy (Al_ L) s.heap L κ ln R I_20 J 26 [(0, .ref x), (1, .int v_19)] [] := by
      intro m_26
      induction m_26 with
      | zero =>
        intro v_19 I_20 hk_26 h0_26 hI_20
        have rv_19 : Rg 75 75 v_19 := by unfold Rg; omega
        refine g_iload_n C 1 dX12_undo_26 rfl rfl ?_
        refine g_bipush C (v := 75) dX12_undo_27 (by decide) ?_
        refine g_icmp_ge C (tgt := 61) dX12_undo_29 (by decide) (fun h_21 => ?_) (fun h_21 => ?_)
        · skip
          refine g_lo (is := [0, 1]) (lo2 := [(0, .ref x), (1, .int v_19)]) rfl ?_
          exact ex_26 I_20 (hI_20.trans (congrArg (fun q => cpn_ I_11 b_1 b_2 (75 * x_10.toNatClampNeg) (72) q) (show v_19.toNatClampNeg = 75 from by have := ix_n rv_19 (by decide); have := rv_19.1; have := rv_19.2; omega))) v_19 rv_19
        · skip
          have r_22 := lt_l (hi := 74) (nle h_21) rv_19 rc_75 (by decide)
          exact rg_no r_22 (by decide)
      | succ m_26 ih_26 =>
        intro v_19 I_20 hk_26 h0_26 hI_20
        have rv_19 : Rg 0 74 v_19 := by unfold Rg; omega
        refine g_iload_n C 1 dX12_undo_26 rfl rfl ?_
        refine g_bipush C (v := 75) dX12_undo_27 (by decide) ?_
        refine g_icmp_ge C (tgt := 61) dX12_undo_29 (by decide) (fun h_23 => ?_) (fun h_23 => ?_)
        · skip
          have r_24 := le_r (h_23) rc_75 rv_19
          exact rg_no r_24 (by decide)
        · skip
          refine g_aload_n C 0 dX12_undo_32 rfl rfl ?_
          refine g_getR C K hLx hkx f_12_13 hb_2 dX12_undo_33 ?_
          refine g_bipush C (v := 72) dX12_undo_36 (by decide) ?_
          refine g_iload_n C 1 dX12_undo_38 rfl rfl ?_
          obtain ⟨x_25, hx_25, rx_25, tx_25⟩ := ex_add 72 146 rc_72 rv_19 (by decide) (by decide) (by decide) (by decide)
          refine g_iadd C (v := x_25) dX12_undo_39 hx_25 ?_
          refine g_aload_n C 0 dX12_undo_40 rfl rfl ?_
          refine g_getR C K hLx hkx f_12_22 hb_1 dX12_undo_41 ?_
          refine g_bipush C (v := 75) dX12_undo_44 (by decide) ?_
          refine g_aload_n C 0 dX12_undo_46 rfl rfl ?_
          refine g_getI C K hLx hkx f_12_228 (v := x_10) (kp_cn (κ := κ) hI_20 (by rw [hkx, hb_2k]; decide) (kp_s hI_11)) dX12_undo_47 ?_
          obtain ⟨x_26, hx_26, rx_26, tx_26⟩ := ex_mulT 0 525 rc_75 rx_10 (by decide) (by decide) (by decide) (by decide) (by decide)
          refine g_imul C (v := x_26) dX12_undo_50 hx_26 ?_
          refine g_iload_n C 1 dX12_undo_51 rfl rfl ?_
          obtain ⟨x_27, hx_27, rx_27, tx_27⟩ := ex_add 0 599 rx_26 rv_19 (by decide) (by decide) (by decide) (by decide)
          refine g_iadd C (v := x_27) dX12_undo_52 hx_27 ?_
          obtain ⟨x_28, hx_28, rx_28⟩ := ex_any (z0 := I_20 b_1 (x_27.toNatClampNeg))
          refine h_iald C K hb_1L hb_1k (v := x_28) (x_27.toNatClampNeg) (rfl) (ix_0 rx_27 (by decide)) (ix_lt rx_27 (by decide) hb_1n (by decide)) hx_28 dX12_undo_53 ?_
          refine h_iast C K hb_2L hb_2k (x_25.toNatClampNeg) (rfl) (ix_0 rx_25 (by decide)) (ix_lt rx_25 (by decide) hb_2n (by decide)) dX12_undo_54 (fun I_29 hI_29 => ?_)
          obtain ⟨x_30, hx_30, rx_30, tx_30⟩ := ex_add (y := 1) 1 75 rv_19 rc_1 (by decide) (by decide) (by decide) (by decide)
          refine g_iinc C dX12_undo_55 (k := 1) (v := x_30) rfl hx_30 (by decide) (lo2 := [(1, .int x_30), (0, .ref x)]) rfl ?_
          refine g_goto C (tgt := 26) dX12_undo_58 (by decide) ?_
          refine g_lo (is := [1, 0]) (lo2 := [(0, .ref x), (1, .int x_30)]) rfl ?_
          have kk_26 : x_30.toNatClampNeg = v_19.toNatClampNeg + 1 := by have q1 := ix_n rv_19 (by decide); have q2 := (ti_k tx_30 rc_1); have q3 : x_30.toNatClampNeg = x_30.toInt.toNat := rfl; omega
          exact ih_26 x_30 I_29 (by have := (ti_k tx_30 rc_1); omega) (by have := (ti_k tx_30 rc_1); omega) (by rw [kk_26]; exact cpn_s hI_20 hx_28 hI_29 (show x_27.toNatClampNeg = (75 * x_10.toNatClampNeg) + v_19.toNatClampNeg from by rw [nx_a tx_27 rx_26 rv_19 (by decide), nx_m (k := 75) tx_26 rx_10 (by decide)] <;> omega) (show x_25.toNatClampNeg = (72) + v_19.toNatClampNeg from by rw [nx_a tx_25 rc_72 rv_19 (by decide)]; simp only [show (72 : Int32).toNatClampNeg = 72 from rfl] <;> omega) (Or.inl (ne_ro (ro_a hb_1k (by decide) hb_1o hkx rfl) (ro_a hb_2k (by decide) hb_2o hkx rfl) (by decide))))
    exact l_26 75 0 I_11 (by decide) (by decide) cpn_0
  · skip
    have r_31 := (⟨(rx_6).1, (eq_rg (h_7) rc_0).2⟩ : Rg 0 0 x_6)
    refine g_iconst C (v := (-1)) dX12_undo_12 (by decide) ?_
    exact g_zret (ty := .int) (r := (-1)) B K rfl (rfl) ⟨hU_4, hF_5, hG, rg_w rc_m1 (by decide) (by decide), (hd_u (r := 0) W9 hLx hkx hd_rf hI_3 (Or.inl (ro_o hkx (by decide))))⟩ dX12_undo_13
set_option maxRecDepth 100000 in
set_option maxHeartbeats 8000000 in
theorem c_X12_oneMeal {l : Launch} {D : va_G} {cy : Nat → ClassId} {L : List Nat} {κ ln : Nat → Nat} {R : Nat → Nat → Option Nat} {I : Nat → Nat → Int32} {J : Nat → Nat → Int64} {ow : Nat → Nat × Nat} (W9 : ∀ a ∈ L, Shp L κ ln R ow a) {x : Nat} (hLx : x ∈ L) (hkx : κ x = 12) (hU : Iw L κ R ow I) : CtV l yX12_oneMeal cX12_oneMeal 4 none { frames := 2, cells := 0, slots := 0, locals := 42 } D cy L κ ln R I J [.ref x] (fun I2 J2 => Iw L κ R ow I2 ∧ Fq L κ ow [83400] I I2 ∧ Fq L κ ow [] J J2 ∧ (Hd_ R x I I2)) := by
  refine CtV.of (by decide +kernel) (Nat.le_of_ble_eq_true rfl) ?_
  intro p e s m below meth c B K
  have C := B.1
  have hF : Fq L κ ow [83400] I I := fq_rf
  have hG : Fq L κ ow [] J J := fq_rf
  obtain ⟨b_1, hb_1, hb_1L, hb_1k, hb_1n, hb_1o⟩ := shp_a (W9 x hLx) hkx 14 14 389 rfl (by decide)
  refine g_lo (is := [0]) (lo2 := [(0, .ref x)]) rfl ?_
  have l_2 : ∀ (n_2 : Nat) (I_2 : Nat → Nat → Int32) (J_3 : Nat → Nat → Int64) (hU_4 : Iw L κ R ow I_2) (hF_5 : Fq L κ ow [83400] I I_2) (hG_6 : Fq L κ ow [] J J_3) (v_7 : Int32) (rv_7 : Rg 0 7 v_7) (hd_8 : Hd_ R x I I_2) (hm_9 : 7 < (v_7 : Int32).toInt + (n_2 : Int)), WG p l e { frames := 2, cells := 0, slots := 0, locals := 42 } s m ([.ref x] : List Value).toArray below meth c 4 0 0 (MQ below (Qv_ D cy L κ ln R (fun I2 J2 => Iw L κ R ow I2 ∧ Fq L κ ow [83400] I I2 ∧ Fq L κ ow [] J J2 ∧ (Hd_ R x I I2))) ([.ref x] : List Value).toArray s 0 0 (Al_ L)) D cy (Al_ L) s.heap L κ ln R I_2 J_3 2 [(0, .ref x), (1, .int v_7)] [] := by
    intro n_2
    induction n_2 with
    | zero =>
      intro I_2 J_3 hU_4 hF_5 hG_6 v_7 rv_7 hd_8 hm_9
      exact ms_0 rv_7 hm_9
    | succ n_2 ih_2 =>
      intro I_2 J_3 hU_4 hF_5 hG_6 v_7 rv_7 hd_8 hm_9
      have l_39 : ∀ (n_39 : Nat) (I_10 : Nat → Nat → Int32) (J_11 : Nat → Nat → Int64) (hU_12 : Iw L κ R ow I_10) (hF_13 : Fq L κ ow [83400] I I_10) (hG_14 : Fq L κ ow [] J J_11) (v_15 : Int32) (rv_15 : Rg 0 6 v_15) (v_16 : Int32) (rv_16 : Rg 0 6 v_16) (hm_17 : 7 < (v_15 : Int32).toInt + ((n_2 + 1 : Nat) : Int)) (hd_18 : Hd_ R x I I_10) (hm_19 : 6 < (v_16 : Int32).toInt + (n_39 : Int)), WG p l e { frames := 2, cells := 0, slots := 0, locals := 42 } s m ([.ref x] : List Value).toArray below meth c 4 0 0 (MQ below (Qv_ D cy L κ ln R (fun I2 J2 => Iw L κ R ow I2 ∧ Fq L κ ow [83400] I I2 ∧ Fq L κ ow [] J J2 ∧ (Hd_ R x I I2))) ([.ref x] : List Value).toArray s 0 0 (Al_ L)) D cy (Al_ L) s.heap L κ ln R I_10 J_11 39 [(0, .ref x), (1, .int v_15), (2, .int v_16)] [] := by
        intro n_39
        induction n_39 with
        | zero =>
          intro I_10 J_11 hU_12 hF_13 hG_14 v_15 rv_15 v_16 rv_16 hm_17 hd_18 hm_19
          exact ms_0 rv_16 hm_19
        | succ n_39 ih_39 =>
          intro I_10 J_11 hU_12 hF_13 hG_14 v_15 rv_15 v_16 rv_16 hm_17 hd_18 hm_19
          refine g_iload_n C 2 dX12_oneMeal_39 rfl rfl ?_
          refine g_bipush C (v := 6) dX12_oneMeal_40 (by decide) ?_
          refine g_icmp_ge C (tgt := 99) dX12_oneMeal_42 (by decide) (fun h_20 => ?_) (fun h_20 => ?_)
          · skip
            have r_21 := le_r (h_20) rc_6 rv_16
            refine g_aload_n C 0 dX12_oneMeal_99 rfl rfl ?_
            refine g_getR C K hLx hkx f_12_13 hb_1 dX12_oneMeal_100 ?_
            refine g_bipush C (v := 91) dX12_oneMeal_103 (by decide) ?_
            refine g_iload_n C 1 dX12_oneMeal_105 rfl rfl ?_
            obtain ⟨x_22, hx_22, rx_22, tx_22⟩ := ex_add 91 97 rc_91 rv_15 (by decide) (by decide) (by decide) (by decide)
            refine g_iadd C (v := x_22) dX12_oneMeal_106 hx_22 ?_
            refine g_iconst C (v := 0) dX12_oneMeal_107 (by decide) ?_
            refine h_iast C K hb_1L hb_1k (x_22.toNatClampNeg) (rfl) (ix_0 rx_22 (by decide)) (ix_lt rx_22 (by decide) hb_1n (by decide)) dX12_oneMeal_108 (fun I_23 hI_23 => ?_)
            have hU_24 := iw_just W9 hU_12 (uw_put hU_12.1 hI_23 (ro_a hb_1k (by decide) hb_1o hkx rfl) (lo := 0) (hi := 20) (bn_834.trans (zq_91 (ix_k (lo := 91) (hi := 97) rx_22 (by decide) (by decide) (by decide)))) (rg_w rc_0 (by decide) (by decide))) hLx hkx hb_1 hI_23 (ix_lt (n := 7) (N := 7) rv_15 (by decide) rfl (by decide)) (show x_22.toNatClampNeg = 91 + v_15.toNatClampNeg from by rw [nx_a tx_22 rc_91 rv_15 (by decide)]; rfl) (by rw [show (0 : Int32).toInt = 0 from by decide]; have q := hU_12.1 _ hb_1L (4 + v_15.toNatClampNeg); rw [(ro_a hb_1k (by decide) hb_1o hkx rfl), show bN 834 (4 + v_15.toNatClampNeg) = (0, 20) from bn_834.trans (zq_4 (by have := (ix_lt (n := 7) (N := 7) rv_15 (by decide) rfl (by decide)); omega))] at q; exact q.1)
            have hF_25 := fq_puta hF_13 hI_23 (ro_a hb_1k (by decide) hb_1o hkx rfl) (by decide) (by decide)
            obtain ⟨x_26, hx_26, rx_26, tx_26⟩ := ex_add (y := 1) 1 7 rv_15 rc_1 (by decide) (by decide) (by decide) (by decide)
            refine g_iinc C dX12_oneMeal_109 (k := 1) (v := x_26) rfl hx_26 (by decide) (lo2 := [(1, .int x_26), (0, .ref x), (2, .int v_16)]) rfl ?_
            refine g_goto C (tgt := 2) dX12_oneMeal_112 (by decide) ?_
            refine g_lo (is := [1, 0]) (lo2 := [(0, .ref x), (1, .int x_26)]) rfl ?_
            exact ih_2 I_23 J_11 hU_24 hF_25 hG_14 x_26 (rg_w rx_26 (by decide) (by decide)) (hd_u (r := 0) W9 hLx hkx hd_18 hI_23 (Or.inr (Or.inr (ix_ge rx_22 (by decide))))) (ms_1 hm_17 (ti_k tx_26 rc_1) (by decide))
          · skip
            have r_27 := lt_l (hi := 5) (nle h_20) rv_16 rc_6 (by decide)
            refine g_aload_n C 0 dX12_oneMeal_45 rfl rfl ?_
            refine g_getR C K hLx hkx f_12_13 hb_1 dX12_oneMeal_46 ?_
            refine g_bipush C (v := 24) dX12_oneMeal_49 (by decide) ?_
            refine g_iload_n C 2 dX12_oneMeal_51 rfl rfl ?_
            obtain ⟨x_28, hx_28, rx_28, tx_28⟩ := ex_add 24 29 rc_24 r_27 (by decide) (by decide) (by decide) (by decide)
            refine g_iadd C (v := x_28) dX12_oneMeal_52 hx_28 ?_
            obtain ⟨x_29, hx_29, rx_29⟩ := ex_getw (I := I_10) (a := b_1) (j := x_28.toNatClampNeg) (lo := 0) (hi := 9) hU_12.1 hb_1L (ro_a hb_1k (by decide) hb_1o hkx rfl) (bn_834.trans (zq_24 (ix_k (lo := 24) (hi := 29) rx_28 (by decide) (by decide) (by decide))))
            refine h_iald C K hb_1L hb_1k (v := x_29) (x_28.toNatClampNeg) (rfl) (ix_0 rx_28 (by decide)) (ix_lt rx_28 (by decide) hb_1n (by decide)) hx_29 dX12_oneMeal_53 ?_
            refine g_aload_n C 0 dX12_oneMeal_54 rfl rfl ?_
            refine g_iload_n C 1 dX12_oneMeal_55 rfl rfl ?_
            refine g_iload_n C 2 dX12_oneMeal_56 rfl rfl ?_
            refine g_callVI C K (c_X12_onPlate W9 hLx hkx v_15 v_16 (rv_15) (r_27) hU_12) hLx hkx (by decide) rfl v_12_234 rfl ⟨rfl, rfl⟩ ⟨Nat.le_of_ble_eq_true rfl, Nat.le_of_ble_eq_true rfl⟩ (Nat.le_of_ble_eq_true rfl) ⟨Nat.le_of_ble_eq_true rfl, Nat.le_of_ble_eq_true rfl⟩ dX12_oneMeal_57 rfl (st := [.int x_29]) (fun x_30 I_31 J_32 h_33 => ?_)
            obtain ⟨rfl, rfl, rx_30, ex_30⟩ := h_33
            refine g_callSI C K (c_X12_least W9 x_29 x_30  hU_12) s_12_265 rfl ⟨rfl, rfl⟩ ⟨Nat.le_of_ble_eq_true rfl, Nat.le_of_ble_eq_true rfl⟩ (Nat.le_of_ble_eq_true rfl) ⟨Nat.le_of_ble_eq_true rfl, Nat.le_of_ble_eq_true rfl⟩ dX12_oneMeal_60 rfl (st := []) (fun x_34 I_35 J_36 h_37 => ?_)
            obtain ⟨rfl, rfl, rx_34, ex_34⟩ := h_37
            have r_38 := ls_rg ex_34 rx_29 rx_30 (lo := 0) (hi := 9) (by decide) (by decide)
            refine g_istore_n C dX12_oneMeal_63 rfl (by decide) (lo2 := [(3, .int x_34), (0, .ref x), (1, .int v_15), (2, .int v_16)]) rfl ?_
            refine g_aload_n C 1 dX12_oneMeal_64 rfl rfl ?_
            refine g_getR C K hLx hkx f_12_13 hb_1 dX12_oneMeal_65 ?_
            refine g_bipush C (v := 105) dX12_oneMeal_68 (by decide) ?_
            refine g_bipush C (v := 6) dX12_oneMeal_70 (by decide) ?_
            refine g_iload_n C 2 dX12_oneMeal_72 rfl rfl ?_
            obtain ⟨x_39, hx_39, rx_39, tx_39⟩ := ex_mulT 0 36 rc_6 rv_15 (by decide) (by decide) (by decide) (by decide) (by decide)
            refine g_imul C (v := x_39) dX12_oneMeal_73 hx_39 ?_
            obtain ⟨x_40, hx_40, rx_40, tx_40⟩ := ex_add 105 141 rc_105 rx_39 (by decide) (by decide) (by decide) (by decide)
            refine g_iadd C (v := x_40) dX12_oneMeal_74 hx_40 ?_
            refine g_iload_n C 3 dX12_oneMeal_75 rfl rfl ?_
            obtain ⟨x_41, hx_41, rx_41, tx_41⟩ := ex_add 105 146 rx_40 r_27 (by decide) (by decide) (by decide) (by decide)
            refine g_iadd C (v := x_41) dX12_oneMeal_76 hx_41 ?_
            refine g_dup2 C dX12_oneMeal_77 rfl rfl ?_
            obtain ⟨x_42, hx_42, rx_42⟩ := ex_getw (I := I_10) (a := b_1) (j := x_41.toNatClampNeg) (lo := 0) (hi := 379) hU_12.1 hb_1L (ro_a hb_1k (by decide) hb_1o hkx rfl) (bn_834.trans (zq_105 (ix_k (lo := 105) (hi := 146) rx_41 (by decide) (by decide) (by decide))))
            refine h_iald C K hb_1L hb_1k (v := x_42) (x_41.toNatClampNeg) (rfl) (ix_0 rx_41 (by decide)) (ix_lt rx_41 (by decide) hb_1n (by decide)) hx_42 dX12_oneMeal_78 ?_
            refine g_iload_n C 0 dX12_oneMeal_79 rfl rfl ?_
            obtain ⟨x_43, hx_43, rx_43, tx_43⟩ := ex_suble 379 rx_42 r_38 ((show x_34 ≤ x_42 from by rw [← hx_42, (show x_41.toNatClampNeg = 105 + 6 * v_15.toNatClampNeg + v_16.toNatClampNeg from by rw [nx_a tx_41 rx_40 r_27 (by decide), nx_a tx_40 rc_105 rx_39 (by decide), nx_m (k := 6) tx_39 rv_15 (by decide)]; rfl), ← ex_30 _ hb_1]; exact ex_34.2.1)) (by decide) (by decide)
            refine g_isub C (v := x_43) dX12_oneMeal_80 hx_43 ?_
            refine h_iast C K hb_1L hb_1k (x_41.toNatClampNeg) (rfl) (ix_0 rx_41 (by decide)) (ix_lt rx_41 (by decide) hb_1n (by decide)) dX12_oneMeal_81 (fun I_44 hI_44 => ?_)
            have hU_45 := iw_less W9 hU_12 (uw_put hU_12.1 hI_44 (ro_a hb_1k (by decide) hb_1o hkx rfl) (lo := 0) (hi := 379) (bn_834.trans (zq_105 (ix_k (lo := 105) (hi := 146) rx_41 (by decide) (by decide) (by decide)))) (rx_43)) hLx hkx hb_1 hI_44 (ix_lt (n := 6) (N := 6) r_27 (by decide) rfl (by decide)) (Or.inr ⟨v_15.toNatClampNeg, (ix_lt (n := 7) (N := 7) rv_15 (by decide) rfl (by decide)), rfl⟩ : cl_ v_16.toNatClampNeg (33 + 6 * v_15.toNatClampNeg + v_16.toNatClampNeg)) (show x_41.toNatClampNeg = 72 + (33 + 6 * v_15.toNatClampNeg + v_16.toNatClampNeg) from by rw [nx_a tx_41 rx_40 r_27 (by decide), nx_a tx_40 rc_105 rx_39 (by decide), nx_m (k := 6) tx_39 rv_15 (by decide)]; show 105 + 6 * _ + _ = _; omega) (by rw [hx_42, tx_43]; have := (r_38).1; omega)
            have hF_46 := fq_puta hF_13 hI_44 (ro_a hb_1k (by decide) hb_1o hkx rfl) (by decide) (by decide)
            refine g_aload_n C 1 dX12_oneMeal_82 rfl rfl ?_
            refine g_getR C K hLx hkx f_12_13 hb_1 dX12_oneMeal_83 ?_
            refine g_bipush C (v := 76) dX12_oneMeal_86 (by decide) ?_
            refine g_dup2 C dX12_oneMeal_88 rfl rfl ?_
            obtain ⟨x_47, hx_47, rx_47⟩ := ex_any (z0 := I_44 b_1 (76))
            refine h_iald C K hb_1L hb_1k (v := x_47) (76) (by decide) (by decide) (by rw [hb_1n]; decide) hx_47 dX12_oneMeal_89 ?_
            refine g_iload_n C 0 dX12_oneMeal_90 rfl rfl ?_
            obtain ⟨x_48, hx_48, rx_48⟩ := ex_any (z0 := x_47 + x_34)
            refine g_iadd C (v := x_48) dX12_oneMeal_91 hx_48 ?_
            refine h_iast C K hb_1L hb_1k (76) (by decide) (by decide) (by rw [hb_1n]; decide) dX12_oneMeal_92 (fun I_49 hI_49 => ?_)
            have hU_50 := iw_free W9 hU_45 (uw_put hU_45.1 hI_49 (ro_a hb_1k (by decide) hb_1o hkx rfl) (lo := (-2147483648)) (hi := 2147483647) (by decide) (rx_48)) hLx hkx hb_1 hI_49 (by omega)
            have hF_51 := fq_puta hF_46 hI_49 (ro_a hb_1k (by decide) hb_1o hkx rfl) (by decide) (by decide)
            obtain ⟨x_52, hx_52, rx_52, tx_52⟩ := ex_add (y := 1) 1 6 r_27 rc_1 (by decide) (by decide) (by decide) (by decide)
            refine g_iinc C dX12_oneMeal_93 (k := 3) (v := x_52) rfl hx_52 (by decide) (lo2 := [(2, .int x_52), (3, .int x_34), (0, .ref x), (1, .int v_15)]) rfl ?_
            refine g_goto C (tgt := 39) dX12_oneMeal_96 (by decide) ?_
            refine g_lo (is := [2, 3, 0]) (lo2 := [(0, .ref x), (1, .int v_15), (2, .int x_52)]) rfl ?_
            exact ih_39 I_49 J_11 hU_50 hF_51 hG_14 v_15 (rv_15) x_52 (rg_w rx_52 (by decide) (by decide)) hm_17 (hd_u (r := 0) W9 hLx hkx (hd_u (r := 0) W9 hLx hkx hd_18 hI_44 (Or.inr (Or.inr (ix_ge rx_41 (by decide))))) hI_49 (Or.inr (Or.inr (by decide)))) (ms_1 hm_19 (ti_k tx_52 rc_1) (by decide))
      have j_37 : ∀ (I_53 : Nat → Nat → Int32) (J_54 : Nat → Nat → Int64) (hU_55 : Iw L κ R ow I_53) (hF_56 : Fq L κ ow [83400] I I_53) (hG_57 : Fq L κ ow [] J J_54) (v_58 : Int32) (rv_58 : Rg 0 6 v_58) (hm_59 : 7 < (v_58 : Int32).toInt + ((n_2 + 1 : Nat) : Int)) (hd_60 : Hd_ R x I I_53), WG p l e { frames := 2, cells := 0, slots := 0, locals := 42 } s m ([.ref x] : List Value).toArray below meth c 4 0 0 (MQ below (Qv_ D cy L κ ln R (fun I2 J2 => Iw L κ R ow I2 ∧ Fq L κ ow [83400] I I2 ∧ Fq L κ ow [] J J2 ∧ (Hd_ R x I I2))) ([.ref x] : List Value).toArray s 0 0 (Al_ L)) D cy (Al_ L) s.heap L κ ln R I_53 J_54 37 [(0, .ref x), (1, .int v_58)] [] := by
        intro I_53 J_54 hU_55 hF_56 hG_57 v_58 rv_58 hm_59 hd_60
        refine g_iconst C (v := 0) dX12_oneMeal_37 (by decide) ?_
        refine g_istore_n C dX12_oneMeal_38 rfl (by decide) (lo2 := [(2, .int 0), (0, .ref x), (1, .int v_58)]) rfl ?_
        refine g_lo (is := [1, 2, 0]) (lo2 := [(0, .ref x), (1, .int v_58), (2, .int 0)]) rfl ?_
        exact l_39 7 I_53 J_54 hU_55 hF_56 hG_57 v_58 (rv_58) 0 (rg_w rc_0 (by decide) (by decide)) hm_59 hd_60 (ms_s (a := 0) (b := 6) (N := 7) (rg_w rc_0 (by decide) (by decide)) (by decide))
      refine g_iload_n C 1 dX12_oneMeal_2 rfl rfl ?_
      refine g_aload_n C 0 dX12_oneMeal_3 rfl rfl ?_
      refine g_getR C K hLx hkx f_12_13 hb_1 dX12_oneMeal_4 ?_
      refine g_iconst C (v := 0) dX12_oneMeal_7 (by decide) ?_
      obtain ⟨x_61, hx_61, rx_61⟩ := ex_getw (I := I_2) (a := b_1) (j := 0) (lo := 0) (hi := 7) hU_4.1 hb_1L (ro_a hb_1k (by decide) hb_1o hkx rfl) (by decide)
      refine h_iald C K hb_1L hb_1k (v := x_61) (0) (by decide) (by decide) (by rw [hb_1n]; decide) hx_61 dX12_oneMeal_8 ?_
      refine g_icmp_ge C (tgt := 115) dX12_oneMeal_9 (by decide) (fun h_62 => ?_) (fun h_62 => ?_)
      · skip
        refine g_aload_n C 0 dX12_oneMeal_115 rfl rfl ?_
        refine g_getR C K hLx hkx f_12_13 hb_1 dX12_oneMeal_116 ?_
        refine g_bipush C (v := 72) dX12_oneMeal_119 (by decide) ?_
        refine g_dup2 C dX12_oneMeal_121 rfl rfl ?_
        obtain ⟨x_63, hx_63, rx_63⟩ := ex_any (z0 := I_2 b_1 (72))
        refine h_iald C K hb_1L hb_1k (v := x_63) (72) (by decide) (by decide) (by rw [hb_1n]; decide) hx_63 dX12_oneMeal_122 ?_
        refine g_iconst C (v := 1) dX12_oneMeal_123 (by decide) ?_
        obtain ⟨x_64, hx_64, rx_64⟩ := ex_any (z0 := x_63 + 1)
        refine g_iadd C (v := x_64) dX12_oneMeal_124 hx_64 ?_
        refine h_iast C K hb_1L hb_1k (72) (by decide) (by decide) (by rw [hb_1n]; decide) dX12_oneMeal_125 (fun I_65 hI_65 => ?_)
        have hU_66 := iw_free W9 hU_4 (uw_put hU_4.1 hI_65 (ro_a hb_1k (by decide) hb_1o hkx rfl) (lo := (-2147483648)) (hi := 2147483647) (by decide) (rx_64)) hLx hkx hb_1 hI_65 (by omega)
        have hF_67 := fq_puta hF_5 hI_65 (ro_a hb_1k (by decide) hb_1o hkx rfl) (by decide) (by decide)
        exact g_vret B K rfl ⟨hU_66, hF_67, hG_6, (hd_u (r := 0) W9 hLx hkx hd_8 hI_65 (Or.inr (Or.inr (by decide))))⟩ dX12_oneMeal_126
      · skip
        have r_68 := lt_l (hi := 6) (nle h_62) rv_7 rx_61 (by decide)
        have r_69 := lt_r (lo := 1) (nle h_62) rv_7 rx_61 (by decide)
        refine g_aload_n C 0 dX12_oneMeal_12 rfl rfl ?_
        refine g_iload_n C 1 dX12_oneMeal_13 rfl rfl ?_
        refine g_callVI C K (c_X12_isDead W9 hLx hkx v_7 (r_68) hU_4) hLx hkx (by decide) rfl v_12_244 rfl ⟨rfl, rfl⟩ ⟨Nat.le_of_ble_eq_true rfl, Nat.le_of_ble_eq_true rfl⟩ (Nat.le_of_ble_eq_true rfl) ⟨Nat.le_of_ble_eq_true rfl, Nat.le_of_ble_eq_true rfl⟩ dX12_oneMeal_14 rfl (st := []) (fun x_70 I_71 J_72 h_73 => ?_)
        obtain ⟨rfl, rfl, rx_70⟩ := h_73
        refine g_if_ne C (tgt := 37) dX12_oneMeal_17 (by decide) (fun h_74 => ?_) (fun h_74 => ?_)
        · skip
          have n_75 : ¬ x_70 = 0 := h_74
          have r_76 := ne_lo (lo := 1) n_75 rx_70 rc_0 rfl (by decide)
          refine g_lo (is := [0, 1]) (lo2 := [(0, .ref x), (1, .int v_7)]) rfl ?_
          exact j_37 I_2 J_3 hU_4 hF_5 hG_6 v_7 (r_68) hm_9 hd_8
        · skip
          have r_77 := (⟨(rx_70).1, (eq_rg (h_74) rc_0).2⟩ : Rg 0 0 x_70)
          refine g_aload_n C 0 dX12_oneMeal_20 rfl rfl ?_
          refine g_getR C K hLx hkx f_12_13 hb_1 dX12_oneMeal_21 ?_
          refine g_bipush C (v := 98) dX12_oneMeal_24 (by decide) ?_
          refine g_iload_n C 1 dX12_oneMeal_26 rfl rfl ?_
          obtain ⟨x_78, hx_78, rx_78, tx_78⟩ := ex_add 98 104 rc_98 r_68 (by decide) (by decide) (by decide) (by decide)
          refine g_iadd C (v := x_78) dX12_oneMeal_27 hx_78 ?_
          refine g_dup2 C dX12_oneMeal_28 rfl rfl ?_
          obtain ⟨x_79, hx_79, rx_79⟩ := ex_any (z0 := I_2 b_1 (x_78.toNatClampNeg))
          refine h_iald C K hb_1L hb_1k (v := x_79) (x_78.toNatClampNeg) (rfl) (ix_0 rx_78 (by decide)) (ix_lt rx_78 (by decide) hb_1n (by decide)) hx_79 dX12_oneMeal_29 ?_
          refine g_aload_n C 0 dX12_oneMeal_30 rfl rfl ?_
          refine g_iload_n C 1 dX12_oneMeal_31 rfl rfl ?_
          refine g_callVI C K (c_X12_wantsYet W9 hLx hkx v_7 (r_68) hU_4) hLx hkx (by decide) rfl v_12_268 rfl ⟨rfl, rfl⟩ ⟨Nat.le_of_ble_eq_true rfl, Nat.le_of_ble_eq_true rfl⟩ (Nat.le_of_ble_eq_true rfl) ⟨Nat.le_of_ble_eq_true rfl, Nat.le_of_ble_eq_true rfl⟩ dX12_oneMeal_32 rfl (st := [.int x_79, .int x_78, .ref b_1]) (fun x_80 I_81 J_82 h_83 => ?_)
          obtain ⟨rfl, rfl, rx_80, ex_80⟩ := h_83
          obtain ⟨x_84, hx_84, rx_84⟩ := ex_any (z0 := x_79 + x_80)
          refine g_iadd C (v := x_84) dX12_oneMeal_35 hx_84 ?_
          refine h_iast C K hb_1L hb_1k (x_78.toNatClampNeg) (rfl) (ix_0 rx_78 (by decide)) (ix_lt rx_78 (by decide) hb_1n (by decide)) dX12_oneMeal_36 (fun I_85 hI_85 => ?_)
          have hU_86 := iw_free W9 hU_4 (uw_put hU_4.1 hI_85 (ro_a hb_1k (by decide) hb_1o hkx rfl) (lo := (-2147483648)) (hi := 2147483647) (bn_834.trans (zq_98 (ix_k (lo := 98) (hi := 104) rx_78 (by decide) (by decide) (by decide)))) (rx_84)) hLx hkx hb_1 hI_85 (by have := ix_k (lo := 98) (hi := 104) rx_78 (by decide) (by decide) (by decide); omega)
          have hF_87 := fq_puta hF_5 hI_85 (ro_a hb_1k (by decide) hb_1o hkx rfl) (by decide) (by decide)
          refine g_lo (is := [0, 1]) (lo2 := [(0, .ref x), (1, .int v_7)]) rfl ?_
          exact j_37 I_85 J_3 hU_86 hF_87 hG_6 v_7 (r_68) hm_9 (hd_u (r := 0) W9 hLx hkx hd_8 hI_85 (Or.inr (Or.inr (ix_ge rx_78 (by decide)))))
  refine g_iconst C (v := 0) dX12_oneMeal_0 (by decide) ?_
  refine g_istore_n C dX12_oneMeal_1 rfl (by decide) (lo2 := [(1, .int 0), (0, .ref x)]) rfl ?_
  refine g_lo (is := [1, 0]) (lo2 := [(0, .ref x), (1, .int 0)]) rfl ?_
  exact l_2 8 I J hU hF hG 0 (rg_w rc_0 (by decide) (by decide)) hd_rf (ms_s (a := 0) (b := 7) (N := 8) (rg_w rc_0 (by decide) (by decide)) (by decide))
set_option maxRecDepth 100000 in
set_option maxHeartbeats 8000000 in
theorem c_X12_passMeals {l : Launch} {D : va_G} {cy : Nat → ClassId} {L : List Nat} {κ ln : Nat → Nat} {R : Nat → Nat → Option Nat} {I : Nat → Nat → Int32} {J : Nat → Nat → Int64} {ow : Nat → Nat × Nat} (W9 : ∀ a ∈ L, Shp L κ ln R ow a) {x : Nat} (hLx : x ∈ L) (hkx : κ x = 12) (a0 : Int32) (ra0 : Rg 0 60 a0) (hU : Iw L κ R ow I) : CtI l yX12_passMeals cX12_passMeals 4 (some .int) { frames := 3, cells := 0, slots := 0, locals := 65 } D cy L κ ln R I J [.ref x, .int a0] (fun r I2 J2 => Iw L κ R ow I2 ∧ Fq L κ ow [83400] I I2 ∧ Fq L κ ow [] J J2 ∧ Rg (-2147483648) 60 r ∧ (Hd_ R x I I2)) := by
  refine CtI.of (by decide +kernel) (Nat.le_of_ble_eq_true rfl) ?_
  intro p e s m below meth c B K
  have C := B.1
  have hF : Fq L κ ow [83400] I I := fq_rf
  have hG : Fq L κ ow [] J J := fq_rf
  obtain ⟨b_1, hb_1, hb_1L, hb_1k, hb_1n, hb_1o⟩ := shp_a (W9 x hLx) hkx 14 14 389 rfl (by decide)
  refine g_lo (is := [0, 1]) (lo2 := [(0, .ref x), (1, .int a0)]) rfl ?_
  have l_18 : ∀ (n_18 : Nat) (I_2 : Nat → Nat → Int32) (J_3 : Nat → Nat → Int64) (hU_4 : Iw L κ R ow I_2) (hF_5 : Fq L κ ow [83400] I I_2) (hG_6 : Fq L κ ow [] J J_3) (v_7 : Int32) (rv_7 : Rg (-2147483648) 60 v_7) (v_8 : Int32) (rv_8 : Rg 0 60 v_8) (hd_9 : Hd_ R x I I_2) (hm_10 : 60 < (v_8 : Int32).toInt + (n_18 : Int)), WG p l e { frames := 3, cells := 0, slots := 0, locals := 65 } s m ([.ref x, .int a0] : List Value).toArray below meth c 4 0 0 (MQ below (Qi_ D cy L κ ln R (fun r I2 J2 => Iw L κ R ow I2 ∧ Fq L κ ow [83400] I I2 ∧ Fq L κ ow [] J J2 ∧ Rg (-2147483648) 60 r ∧ (Hd_ R x I I2))) ([.ref x, .int a0] : List Value).toArray s 0 0 (Al_ L)) D cy (Al_ L) s.heap L κ ln R I_2 J_3 18 [(0, .ref x), (1, .int a0), (2, .int v_7), (3, .int v_8)] [] := by
    intro n_18
    induction n_18 with
    | zero =>
      intro I_2 J_3 hU_4 hF_5 hG_6 v_7 rv_7 v_8 rv_8 hd_9 hm_10
      exact ms_0 rv_8 hm_10
    | succ n_18 ih_18 =>
      intro I_2 J_3 hU_4 hF_5 hG_6 v_7 rv_7 v_8 rv_8 hd_9 hm_10
      refine g_iload_n C 3 dX12_passMeals_18 rfl rfl ?_
      refine g_iload_n C 2 dX12_passMeals_19 rfl rfl ?_
      refine g_icmp_ge C (tgt := 33) dX12_passMeals_20 (by decide) (fun h_11 => ?_) (fun h_11 => ?_)
      · skip
        refine g_iload_n C 2 dX12_passMeals_33 rfl rfl ?_
        exact g_zret (ty := .int) (r := v_7) B K rfl (rfl) ⟨hU_4, hF_5, hG_6, rv_7, hd_9⟩ dX12_passMeals_34
      · skip
        have r_12 := lt_l (hi := 59) (nle h_11) rv_8 rv_7 (by decide)
        have r_13 := lt_r (lo := 1) (nle h_11) rv_8 rv_7 (by decide)
        refine g_aload_n C 0 dX12_passMeals_23 rfl rfl ?_
        refine g_callVV C K (c_X12_oneMeal W9 hLx hkx   hU_4) hLx hkx (by decide) rfl v_12_292 rfl ⟨rfl, rfl⟩ ⟨Nat.le_of_ble_eq_true rfl, Nat.le_of_ble_eq_true rfl⟩ (Nat.le_of_ble_eq_true rfl) ⟨Nat.le_of_ble_eq_true rfl, Nat.le_of_ble_eq_true rfl⟩ dX12_passMeals_24 rfl (st := []) (fun I_15 J_16 h_17 => ?_)
        obtain ⟨hUI_15, hFI_15, hGJ_16, ex_14⟩ := h_17
        have hF_18 := fq_tr hF_5 hFI_15 (by decide)
        have hG_19 := fq_tr hG_6 hGJ_16 (by decide)
        obtain ⟨x_20, hx_20, rx_20, tx_20⟩ := ex_add (y := 1) 1 60 r_12 rc_1 (by decide) (by decide) (by decide) (by decide)
        refine g_iinc C dX12_passMeals_27 (k := 3) (v := x_20) rfl hx_20 (by decide) (lo2 := [(3, .int x_20), (0, .ref x), (1, .int a0), (2, .int v_7)]) rfl ?_
        refine g_goto C (tgt := 18) dX12_passMeals_30 (by decide) ?_
        refine g_lo (is := [1, 2, 3, 0]) (lo2 := [(0, .ref x), (1, .int a0), (2, .int v_7), (3, .int x_20)]) rfl ?_
        exact ih_18 I_15 J_16 hUI_15 hF_18 hG_19 v_7 (rg_w r_13 (by decide) (by decide)) x_20 (rg_w rx_20 (by decide) (by decide)) (hd_t hd_9 ex_14) (ms_1 hm_10 (ti_k tx_20 rc_1) (by decide))
  refine g_iload_n C 1 dX12_passMeals_0 rfl rfl ?_
  refine g_sipush C (v := 200) dX12_passMeals_1 (by decide) ?_
  refine g_aload_n C 0 dX12_passMeals_4 rfl rfl ?_
  refine g_getR C K hLx hkx f_12_13 hb_1 dX12_passMeals_5 ?_
  refine g_bipush C (v := 72) dX12_passMeals_8 (by decide) ?_
  obtain ⟨x_21, hx_21, rx_21⟩ := ex_any (z0 := I b_1 (72))
  refine h_iald C K hb_1L hb_1k (v := x_21) (72) (by decide) (by decide) (by rw [hb_1n]; decide) hx_21 dX12_passMeals_10 ?_
  obtain ⟨x_22, hx_22, rx_22⟩ := ex_any (z0 := 200 - x_21)
  refine g_isub C (v := x_22) dX12_passMeals_11 hx_22 ?_
  refine g_callSI C K (c_X12_least W9 a0 x_22  hU) s_12_265 rfl ⟨rfl, rfl⟩ ⟨Nat.le_of_ble_eq_true rfl, Nat.le_of_ble_eq_true rfl⟩ (Nat.le_of_ble_eq_true rfl) ⟨Nat.le_of_ble_eq_true rfl, Nat.le_of_ble_eq_true rfl⟩ dX12_passMeals_12 rfl (st := []) (fun x_23 I_24 J_25 h_26 => ?_)
  obtain ⟨rfl, rfl, rx_23, ex_23⟩ := h_26
  have r_27 := ls_rg ex_23 ra0 rx_22 (lo := (-2147483648)) (hi := 60) (by decide) (by decide)
  refine g_istore_n C dX12_passMeals_15 rfl (by decide) (lo2 := [(2, .int x_23), (0, .ref x), (1, .int a0)]) rfl ?_
  refine g_iconst C (v := 0) dX12_passMeals_16 (by decide) ?_
  refine g_istore_n C dX12_passMeals_17 rfl (by decide) (lo2 := [(3, .int 0), (2, .int x_23), (0, .ref x), (1, .int a0)]) rfl ?_
  refine g_lo (is := [2, 3, 1, 0]) (lo2 := [(0, .ref x), (1, .int a0), (2, .int x_23), (3, .int 0)]) rfl ?_
  exact l_18 61 I J hU hF hG x_23 (r_27) 0 (rg_w rc_0 (by decide) (by decide)) hd_rf (ms_s (a := 0) (b := 60) (N := 61) (rg_w rc_0 (by decide) (by decide)) (by decide))
set_option maxRecDepth 100000 in
set_option maxHeartbeats 8000000 in
theorem c_X12_meals {l : Launch} {D : va_G} {cy : Nat → ClassId} {L : List Nat} {κ ln : Nat → Nat} {R : Nat → Nat → Option Nat} {I : Nat → Nat → Int32} {J : Nat → Nat → Int64} {ow : Nat → Nat × Nat} (W9 : ∀ a ∈ L, Shp L κ ln R ow a) {x : Nat} (hLx : x ∈ L) (hkx : κ x = 12) (a0 : Int32) (hU : Iw L κ R ow I) : CtI l yX12_meals cX12_meals 2 (some .int) { frames := 4, cells := 0, slots := 0, locals := 88 } D cy L κ ln R I J [.ref x, .int a0] (fun r I2 J2 => Iw L κ R ow I2 ∧ Fq L κ ow [1200, 1223, 83400, 83700] I I2 ∧ Fq L κ ow [] J J2 ∧ Rg (-2147483648) 60 r ∧ (Hd_ R x I I2)) := by
  refine CtI.of (by decide +kernel) (Nat.le_of_ble_eq_true rfl) ?_
  intro p e s m below meth c B K
  have C := B.1
  have hF : Fq L κ ow [1200, 1223, 83400, 83700] I I := fq_rf
  have hG : Fq L κ ow [] J J := fq_rf
  obtain ⟨b_1, hb_1, hb_1L, hb_1k, hb_1n, hb_1o⟩ := shp_a (W9 x hLx) hkx 14 14 389 rfl (by decide)
  refine g_lo (is := [0, 1]) (lo2 := [(0, .ref x), (1, .int a0)]) rfl ?_
  refine g_aload_n C 0 dX12_meals_0 rfl rfl ?_
  refine g_iconst C (v := 0) dX12_meals_1 (by decide) ?_
  refine h_putI C K hLx hkx f_12_82 p_12_0 dX12_meals_2 (fun I_2 hI_2 => ?_)
  have hU_3 := iw_put W9 hU hI_2 (ro_o hkx (by decide)) (lo := (-2147483648)) (hi := 2147483647) (rfl) (rg_all _) rfl
  have hF_4 := fq_puto hF hI_2 hkx (by decide) (by decide)
  refine g_iload_n C 1 dX12_meals_5 rfl rfl ?_
  refine g_iconst C (v := 1) dX12_meals_6 (by decide) ?_
  refine g_bipush C (v := 60) dX12_meals_7 (by decide) ?_
  refine g_callSI C K (c_X12_isIn W9 a0 1 60 (rg_w rc_1 (by decide) (by decide)) (rg_w rc_60 (by decide) (by decide)) hU_3) s_12_149 rfl ⟨rfl, rfl⟩ ⟨Nat.le_of_ble_eq_true rfl, Nat.le_of_ble_eq_true rfl⟩ (Nat.le_of_ble_eq_true rfl) ⟨Nat.le_of_ble_eq_true rfl, Nat.le_of_ble_eq_true rfl⟩ dX12_meals_9 rfl (st := []) (fun x_5 I_6 J_7 h_8 => ?_)
  obtain ⟨rfl, rfl, rx_5, fx_5, ex_5⟩ := h_8
  refine g_if_ne C (tgt := 17) dX12_meals_12 (by decide) (fun h_9 => ?_) (fun h_9 => ?_)
  · skip
    have n_10 : ¬ x_5 = 0 := h_9
    have r_11 := ne_lo (lo := 1) n_10 rx_5 rc_0 rfl (by decide)
    have r_12 := le_r (((ex_5.1) n_10)) rc_1 (rg_all a0)
    have r_13 := le_l (((ex_5.2) n_10)) r_12 rc_60
    refine g_aload_n C 0 dX12_meals_17 rfl rfl ?_
    refine g_getR C K hLx hkx f_12_13 hb_1 dX12_meals_18 ?_
    refine g_bipush C (v := 72) dX12_meals_21 (by decide) ?_
    obtain ⟨x_14, hx_14, rx_14⟩ := ex_any (z0 := I_2 b_1 (72))
    refine h_iald C K hb_1L hb_1k (v := x_14) (72) (by decide) (by decide) (by rw [hb_1n]; decide) hx_14 dX12_meals_23 ?_
    refine g_sipush C (v := 200) dX12_meals_24 (by decide) ?_
    refine g_icmp_ne C (tgt := 32) dX12_meals_27 (by decide) (fun h_15 => ?_) (fun h_15 => ?_)
    · skip
      have n_16 : ¬ x_14 = 200 := h_15
      refine g_aload_n C 0 dX12_meals_32 rfl rfl ?_
      refine g_callVV C K (c_X12_snap W9 hLx hkx   hU_3) hLx hkx (by decide) rfl v_12_282 rfl ⟨rfl, rfl⟩ ⟨Nat.le_of_ble_eq_true rfl, Nat.le_of_ble_eq_true rfl⟩ (Nat.le_of_ble_eq_true rfl) ⟨Nat.le_of_ble_eq_true rfl, Nat.le_of_ble_eq_true rfl⟩ dX12_meals_33 rfl (st := []) (fun I_18 J_19 h_20 => ?_)
      obtain ⟨hUI_18, hFI_18, hGJ_19, ex_17⟩ := h_20
      have hF_21 := fq_tr hF_4 hFI_18 (by decide)
      have hG_22 := fq_tr hG hGJ_19 (by decide)
      refine g_aload_n C 0 dX12_meals_36 rfl rfl ?_
      refine g_iload_n C 1 dX12_meals_37 rfl rfl ?_
      refine g_callVI C K (c_X12_passMeals W9 hLx hkx a0 (rg_w r_13 (by decide) (by decide)) hUI_18) hLx hkx (by decide) rfl v_12_295 rfl ⟨rfl, rfl⟩ ⟨Nat.le_of_ble_eq_true rfl, Nat.le_of_ble_eq_true rfl⟩ (Nat.le_of_ble_eq_true rfl) ⟨Nat.le_of_ble_eq_true rfl, Nat.le_of_ble_eq_true rfl⟩ dX12_meals_38 rfl (st := []) (fun x_23 I_24 J_25 h_26 => ?_)
      obtain ⟨hUI_24, hFI_24, hGJ_25, rx_23, ex_23⟩ := h_26
      have hF_27 := fq_tr hF_21 hFI_24 (by decide)
      have hG_28 := fq_tr hG_22 hGJ_25 (by decide)
      exact g_zret (ty := .int) (r := x_23) B K rfl (rfl) ⟨hUI_24, hF_27, hG_28, rx_23, (hd_t (hd_t (hd_u (r := 0) W9 hLx hkx hd_rf hI_2 (Or.inl (ro_o hkx (by decide)))) ex_17) ex_23)⟩ dX12_meals_41
    · skip
      have r_29 := (⟨(eq_rg (h_15) rc_200).1, (eq_rg (h_15) rc_200).2⟩ : Rg 200 200 x_14)
      refine g_iconst C (v := 0) dX12_meals_30 (by decide) ?_
      exact g_zret (ty := .int) (r := 0) B K rfl (rfl) ⟨hU_3, hF_4, hG, rg_w rc_0 (by decide) (by decide), (hd_u (r := 0) W9 hLx hkx hd_rf hI_2 (Or.inl (ro_o hkx (by decide))))⟩ dX12_meals_31
  · skip
    have r_30 := (⟨(rx_5).1, (eq_rg (h_9) rc_0).2⟩ : Rg 0 0 x_5)
    refine g_iconst C (v := (-1)) dX12_meals_15 (by decide) ?_
    exact g_zret (ty := .int) (r := (-1)) B K rfl (rfl) ⟨hU_3, hF_4, hG, rg_w rc_m1 (by decide) (by decide), (hd_u (r := 0) W9 hLx hkx hd_rf hI_2 (Or.inl (ro_o hkx (by decide))))⟩ dX12_meals_16
set_option maxRecDepth 100000 in
set_option maxHeartbeats 8000000 in
theorem c_X12_bits {l : Launch} {D : va_G} {cy : Nat → ClassId} {L : List Nat} {κ ln : Nat → Nat} {R : Nat → Nat → Option Nat} {I : Nat → Nat → Int32} {J : Nat → Nat → Int64} {ow : Nat → Nat × Nat} (W9 : ∀ a ∈ L, Shp L κ ln R ow a) (a0 : Int32) (ra0 : Rg 0 127 a0) (hU : Iw L κ R ow I) : CtI l yX12_bits cX12_bits 3 (some .int) { frames := 0, cells := 0, slots := 0, locals := 0 } D cy L κ ln R I J [.int a0] (fun r I2 J2 => I = I2 ∧ J = J2 ∧ Rg 0 7 r) := by
  refine CtI.of (by decide +kernel) (Nat.le_of_ble_eq_true rfl) ?_
  intro p e s m below meth c B K
  have C := B.1
  refine g_lo (is := [0]) (lo2 := [(0, .int a0)]) rfl ?_
  have l_4 : ∀ (n_4 : Nat) (v_1 : Int32) (rv_1 : Rg 0 8 v_1) (v_2 : Int32) (rv_2 : Rg 0 127 v_2) (hj_3 : v_1.toInt + (bc_ v_2).toInt ≤ 7) (hm_5 : (bc_ v_2).toInt < (n_4 : Int)), WG p l e { frames := 0, cells := 0, slots := 0, locals := 0 } s m ([.int a0] : List Value).toArray below meth c 3 0 0 (MQ below (Qi_ D cy L κ ln R (fun r I2 J2 => I = I2 ∧ J = J2 ∧ Rg 0 7 r)) ([.int a0] : List Value).toArray s 0 0 (Al_ L)) D cy (Al_ L) s.heap L κ ln R I J 4 [(0, .int a0), (1, .int v_1), (2, .int v_2)] [] := by
    intro n_4
    induction n_4 with
    | zero =>
      intro v_1 rv_1 v_2 rv_2 hj_3 hm_5
      exact absurd hm_5 (by have := (bc_0 (rv_2)).1; omega)
    | succ n_4 ih_4 =>
      intro v_1 rv_1 v_2 rv_2 hj_3 hm_5
      refine g_iload_n C 2 dX12_bits_4 rfl rfl ?_
      refine g_if_eq C (tgt := 20) dX12_bits_5 (by decide) (fun h_6 => ?_) (fun h_6 => ?_)
      · skip
        have r_7 := (⟨(rv_2).1, (eq_rg (h_6) rc_0).2⟩ : Rg 0 0 v_2)
        refine g_iload_n C 1 dX12_bits_20 rfl rfl ?_
        exact g_zret (ty := .int) (r := v_1) B K rfl (rfl) ⟨rfl, rfl, (rg_bi rv_1 hj_3 rv_2)⟩ dX12_bits_21
      · skip
        have n_8 : ¬ v_2 = 0 := h_6
        have r_9 := ne_lo (lo := 1) n_8 rv_2 rc_0 rfl (by decide)
        obtain ⟨x_10, hx_10, rx_10, tx_10⟩ := ex_add (y := 1) 1 8 (rg_bi rv_1 hj_3 rv_2) rc_1 (by decide) (by decide) (by decide) (by decide)
        refine g_iinc C dX12_bits_8 (k := 1) (v := x_10) rfl hx_10 (by decide) (lo2 := [(1, .int x_10), (0, .int a0), (2, .int v_2)]) rfl ?_
        refine g_iload_n C 2 dX12_bits_11 rfl rfl ?_
        refine g_iload_n C 2 dX12_bits_12 rfl rfl ?_
        refine g_iconst C (v := 1) dX12_bits_13 (by decide) ?_
        obtain ⟨x_11, hx_11, rx_11, tx_11⟩ := ex_sub 0 126 r_9 rc_1 (by decide) (by decide) (by decide) (by decide)
        refine g_isub C (v := x_11) dX12_bits_14 hx_11 ?_
        obtain ⟨x_12, hx_12, rx_12⟩ := ex_andr (x := v_2) (y := x_11) (b := 126) (rx_11)
        refine g_iand C (v := x_12) dX12_bits_15 hx_12 ?_
        refine g_istore_n C dX12_bits_16 rfl (by decide) (lo2 := [(2, .int x_12), (1, .int x_10), (0, .int a0)]) rfl ?_
        refine g_goto C (tgt := 4) dX12_bits_17 (by decide) ?_
        refine g_lo (is := [2, 1, 0]) (lo2 := [(0, .int a0), (1, .int x_10), (2, .int x_12)]) rfl ?_
        exact ih_4 x_10 (rg_w rx_10 (by decide) (by decide)) x_12 (rg_w rx_12 (by decide) (by decide)) (by have q1 := hj_3; have q2 := (ti_k tx_10 rc_1); have q3 := (bc_st (z := x_12) (rg_w r_9 (by decide) (by decide)) n_8 (by rw [hx_11]; exact hx_12)).1; omega) (by have q3 := (bc_st (z := x_12) (rg_w r_9 (by decide) (by decide)) n_8 (by rw [hx_11]; exact hx_12)).1; have q4 := hm_5; omega)
  refine g_iconst C (v := 0) dX12_bits_0 (by decide) ?_
  refine g_istore_n C dX12_bits_1 rfl (by decide) (lo2 := [(1, .int 0), (0, .int a0)]) rfl ?_
  refine g_iload_n C 1 dX12_bits_2 rfl rfl ?_
  refine g_istore_n C dX12_bits_3 rfl (by decide) (lo2 := [(2, .int a0), (1, .int 0), (0, .int a0)]) rfl ?_
  refine g_lo (is := [2, 1, 0]) (lo2 := [(0, .int a0), (1, .int 0), (2, .int a0)]) rfl ?_
  exact l_4 8 0 (rg_w rc_0 (by decide) (by decide)) a0 (ra0) (by rw [show (0 : Int32).toInt = 0 from by decide]; have := (bc_0 (ra0)).2; omega) (by have := (bc_0 (ra0)).2; omega)
set_option maxRecDepth 100000 in
set_option maxHeartbeats 8000000 in
theorem c_X12_living {l : Launch} {D : va_G} {cy : Nat → ClassId} {L : List Nat} {κ ln : Nat → Nat} {R : Nat → Nat → Option Nat} {I : Nat → Nat → Int32} {J : Nat → Nat → Int64} {ow : Nat → Nat × Nat} (W9 : ∀ a ∈ L, Shp L κ ln R ow a) {x : Nat} (hLx : x ∈ L) (hkx : κ x = 12) (hU : Iw L κ R ow I) : CtI l yX12_living cX12_living 1 (some .int) { frames := 0, cells := 0, slots := 0, locals := 0 } D cy L κ ln R I J [.ref x] (fun r I2 J2 => I = I2 ∧ J = J2 ∧ Rg 0 127 r) := by
  refine CtI.of (by decide +kernel) (Nat.le_of_ble_eq_true rfl) ?_
  intro p e s m below meth c B K
  have C := B.1
  obtain ⟨b_1, hb_1, hb_1L, hb_1k, hb_1n, hb_1o⟩ := shp_a (W9 x hLx) hkx 14 14 389 rfl (by decide)
  refine g_lo (is := [0]) (lo2 := [(0, .ref x)]) rfl ?_
  refine g_iconst C (v := 1) dX12_living_0 (by decide) ?_
  refine g_aload_n C 0 dX12_living_1 rfl rfl ?_
  refine g_getR C K hLx hkx f_12_13 hb_1 dX12_living_2 ?_
  refine g_iconst C (v := 0) dX12_living_5 (by decide) ?_
  obtain ⟨x_2, hx_2, rx_2⟩ := ex_getw (I := I) (a := b_1) (j := 0) (lo := 0) (hi := 7) hU.1 hb_1L (ro_a hb_1k (by decide) hb_1o hkx rfl) (by decide)
  refine h_iald C K hb_1L hb_1k (v := x_2) (0) (by decide) (by decide) (by rw [hb_1n]; decide) hx_2 dX12_living_6 ?_
  obtain ⟨x_3, hx_3, rx_3⟩ := ex_shl (x := 1) (y := x_2) 7 128 rfl (rx_2) (by decide)
  refine g_ishl C (v := x_3) dX12_living_7 hx_3 ?_
  refine g_iconst C (v := 1) dX12_living_8 (by decide) ?_
  obtain ⟨x_4, hx_4, rx_4, tx_4⟩ := ex_sub 0 127 rx_3 rc_1 (by decide) (by decide) (by decide) (by decide)
  refine g_isub C (v := x_4) dX12_living_9 hx_4 ?_
  refine g_aload_n C 0 dX12_living_10 rfl rfl ?_
  refine g_getR C K hLx hkx f_12_13 hb_1 dX12_living_11 ?_
  refine g_bipush C (v := 73) dX12_living_14 (by decide) ?_
  obtain ⟨x_5, hx_5, rx_5⟩ := ex_any (z0 := I b_1 (73))
  refine h_iald C K hb_1L hb_1k (v := x_5) (73) (by decide) (by decide) (by rw [hb_1n]; decide) hx_5 dX12_living_16 ?_
  refine g_iconst C (v := (-1)) dX12_living_17 (by decide) ?_
  obtain ⟨x_6, hx_6, rx_6⟩ := ex_any (z0 := x_5 ^^^ (-1))
  refine g_ixor C (v := x_6) dX12_living_18 hx_6 ?_
  obtain ⟨x_7, hx_7, rx_7⟩ := ex_andl (x := x_4) (y := x_6) (b := 127) (rx_4)
  refine g_iand C (v := x_7) dX12_living_19 hx_7 ?_
  exact g_zret (ty := .int) (r := x_7) B K rfl (rfl) ⟨rfl, rfl, rx_7⟩ dX12_living_20
set_option maxRecDepth 100000 in
set_option maxHeartbeats 8000000 in
theorem c_X12_eatsAll {l : Launch} {D : va_G} {cy : Nat → ClassId} {L : List Nat} {κ ln : Nat → Nat} {R : Nat → Nat → Option Nat} {I : Nat → Nat → Int32} {J : Nat → Nat → Int64} {ow : Nat → Nat × Nat} (W9 : ∀ a ∈ L, Shp L κ ln R ow a) {x : Nat} (hLx : x ∈ L) (hkx : κ x = 12) (a0 : Int32) (ra0 : Rg 0 6 a0) (hU : Iw L κ R ow I) : CtV l yX12_eatsAll cX12_eatsAll 3 none { frames := 1, cells := 0, slots := 0, locals := 23 } D cy L κ ln R I J [.ref x, .int a0] (fun I2 J2 => Iw L κ R ow I2 ∧ Fq L κ ow [83400] I I2 ∧ Fq L κ ow [] J J2 ∧ (Hd_ R x I I2)) := by
  refine CtV.of (by decide +kernel) (Nat.le_of_ble_eq_true rfl) ?_
  intro p e s m below meth c B K
  have C := B.1
  have hF : Fq L κ ow [83400] I I := fq_rf
  have hG : Fq L κ ow [] J J := fq_rf
  refine g_lo (is := [0, 1]) (lo2 := [(0, .ref x), (1, .int a0)]) rfl ?_
  have l_2 : ∀ (n_2 : Nat) (I_1 : Nat → Nat → Int32) (J_2 : Nat → Nat → Int64) (hU_3 : Iw L κ R ow I_1) (hF_4 : Fq L κ ow [83400] I I_1) (hG_5 : Fq L κ ow [] J J_2) (v_6 : Int32) (rv_6 : Rg 0 6 v_6) (hd_7 : Hd_ R x I I_1) (hm_8 : 6 < (v_6 : Int32).toInt + (n_2 : Int)), WG p l e { frames := 1, cells := 0, slots := 0, locals := 23 } s m ([.ref x, .int a0] : List Value).toArray below meth c 3 0 0 (MQ below (Qv_ D cy L κ ln R (fun I2 J2 => Iw L κ R ow I2 ∧ Fq L κ ow [83400] I I2 ∧ Fq L κ ow [] J J2 ∧ (Hd_ R x I I2))) ([.ref x, .int a0] : List Value).toArray s 0 0 (Al_ L)) D cy (Al_ L) s.heap L κ ln R I_1 J_2 2 [(0, .ref x), (1, .int a0), (2, .int v_6)] [] := by
    intro n_2
    induction n_2 with
    | zero =>
      intro I_1 J_2 hU_3 hF_4 hG_5 v_6 rv_6 hd_7 hm_8
      exact ms_0 rv_6 hm_8
    | succ n_2 ih_2 =>
      intro I_1 J_2 hU_3 hF_4 hG_5 v_6 rv_6 hd_7 hm_8
      refine g_iload_n C 2 dX12_eatsAll_2 rfl rfl ?_
      refine g_bipush C (v := 6) dX12_eatsAll_3 (by decide) ?_
      refine g_icmp_ge C (tgt := 34) dX12_eatsAll_5 (by decide) (fun h_9 => ?_) (fun h_9 => ?_)
      · skip
        have r_10 := le_r (h_9) rc_6 rv_6
        exact g_vret B K rfl ⟨hU_3, hF_4, hG_5, hd_7⟩ dX12_eatsAll_34
      · skip
        have r_11 := lt_l (hi := 5) (nle h_9) rv_6 rc_6 (by decide)
        refine g_aload_n C 0 dX12_eatsAll_8 rfl rfl ?_
        refine g_iload_n C 1 dX12_eatsAll_9 rfl rfl ?_
        refine g_iload_n C 2 dX12_eatsAll_10 rfl rfl ?_
        refine g_aload_n C 0 dX12_eatsAll_11 rfl rfl ?_
        refine g_iload_n C 1 dX12_eatsAll_12 rfl rfl ?_
        refine g_iload_n C 2 dX12_eatsAll_13 rfl rfl ?_
        refine g_callVI C K (c_X12_onPlate W9 hLx hkx a0 v_6 (ra0) (r_11) hU_3) hLx hkx (by decide) rfl v_12_234 rfl ⟨rfl, rfl⟩ ⟨Nat.le_of_ble_eq_true rfl, Nat.le_of_ble_eq_true rfl⟩ (Nat.le_of_ble_eq_true rfl) ⟨Nat.le_of_ble_eq_true rfl, Nat.le_of_ble_eq_true rfl⟩ dX12_eatsAll_14 rfl (st := [.int v_6, .int a0, .ref x]) (fun x_12 I_13 J_14 h_15 => ?_)
        obtain ⟨rfl, rfl, rx_12, ex_12⟩ := h_15
        refine g_aload_n C 0 dX12_eatsAll_17 rfl rfl ?_
        refine g_iload_n C 1 dX12_eatsAll_18 rfl rfl ?_
        refine g_callVI C K (c_X12_wantsYet W9 hLx hkx a0 (ra0) hU_3) hLx hkx (by decide) rfl v_12_268 rfl ⟨rfl, rfl⟩ ⟨Nat.le_of_ble_eq_true rfl, Nat.le_of_ble_eq_true rfl⟩ (Nat.le_of_ble_eq_true rfl) ⟨Nat.le_of_ble_eq_true rfl, Nat.le_of_ble_eq_true rfl⟩ dX12_eatsAll_19 rfl (st := [.int x_12, .int v_6, .int a0, .ref x]) (fun x_16 I_17 J_18 h_19 => ?_)
        obtain ⟨rfl, rfl, rx_16, ex_16⟩ := h_19
        refine g_callSI C K (c_X12_least W9 x_12 x_16  hU_3) s_12_265 rfl ⟨rfl, rfl⟩ ⟨Nat.le_of_ble_eq_true rfl, Nat.le_of_ble_eq_true rfl⟩ (Nat.le_of_ble_eq_true rfl) ⟨Nat.le_of_ble_eq_true rfl, Nat.le_of_ble_eq_true rfl⟩ dX12_eatsAll_22 rfl (st := [.int v_6, .int a0, .ref x]) (fun x_20 I_21 J_22 h_23 => ?_)
        obtain ⟨rfl, rfl, rx_20, ex_20⟩ := h_23
        have r_24 := ls_rg ex_20 rx_12 rx_16 (lo := 0) (hi := 20) (by decide) (by decide)
        refine g_callVV C K (c_X12_doEat W9 hLx hkx a0 v_6 x_20 (ra0) (r_11) (rg_w r_24 (by decide) (by decide)) hU_3  (fun a ha => ea_mk (ex_12 a ha) (ex_16 a ha) ex_20.1 ex_20.2.1)) hLx hkx (by decide) rfl v_12_271 rfl ⟨rfl, rfl⟩ ⟨Nat.le_of_ble_eq_true rfl, Nat.le_of_ble_eq_true rfl⟩ (Nat.le_of_ble_eq_true rfl) ⟨Nat.le_of_ble_eq_true rfl, Nat.le_of_ble_eq_true rfl⟩ dX12_eatsAll_25 rfl (st := []) (fun I_26 J_27 h_28 => ?_)
        obtain ⟨hUI_26, hFI_26, hGJ_27, ex_25⟩ := h_28
        have hF_29 := fq_tr hF_4 hFI_26 (by decide)
        have hG_30 := fq_tr hG_5 hGJ_27 (by decide)
        obtain ⟨x_31, hx_31, rx_31, tx_31⟩ := ex_add (y := 1) 1 6 r_11 rc_1 (by decide) (by decide) (by decide) (by decide)
        refine g_iinc C dX12_eatsAll_28 (k := 2) (v := x_31) rfl hx_31 (by decide) (lo2 := [(2, .int x_31), (0, .ref x), (1, .int a0)]) rfl ?_
        refine g_goto C (tgt := 2) dX12_eatsAll_31 (by decide) ?_
        refine g_lo (is := [1, 2, 0]) (lo2 := [(0, .ref x), (1, .int a0), (2, .int x_31)]) rfl ?_
        exact ih_2 I_26 J_27 hUI_26 hF_29 hG_30 x_31 (rg_w rx_31 (by decide) (by decide)) (hd_t hd_7 ex_25) (ms_1 hm_8 (ti_k tx_31 rc_1) (by decide))
  refine g_iconst C (v := 0) dX12_eatsAll_0 (by decide) ?_
  refine g_istore_n C dX12_eatsAll_1 rfl (by decide) (lo2 := [(2, .int 0), (0, .ref x), (1, .int a0)]) rfl ?_
  refine g_lo (is := [1, 2, 0]) (lo2 := [(0, .ref x), (1, .int a0), (2, .int 0)]) rfl ?_
  exact l_2 7 I J hU hF hG 0 (rg_w rc_0 (by decide) (by decide)) hd_rf (ms_s (a := 0) (b := 6) (N := 7) (rg_w rc_0 (by decide) (by decide)) (by decide))
set_option maxRecDepth 100000 in
set_option maxHeartbeats 8000000 in
theorem c_X12_orderFrom_7 {l : Launch} {D : va_G} {cy : Nat → ClassId} {L : List Nat} {κ ln : Nat → Nat} {R : Nat → Nat → Option Nat} {I : Nat → Nat → Int32} {J : Nat → Nat → Int64} {ow : Nat → Nat × Nat} (W9 : ∀ a ∈ L, Shp L κ ln R ow a) {x : Nat} (hLx : x ∈ L) (hkx : κ x = 12) (a0 : Int32) (a1 : Int32) (ra0 : Rg 7 7 a0) (ra1 : Rg 0 127 a1) (hU : Iw L κ R ow I) (hbc : (bc_ a1).toInt ≤ 0) : CtV l yX12_orderFrom cX12_orderFrom 5 none { frames := 2, cells := 0, slots := 0, locals := 42 } D cy L κ ln R I J [.ref x, .int a0, .int a1] (fun I2 J2 => Iw L κ R ow I2 ∧ Fq L κ ow [1230, 84700] I I2 ∧ Fq L κ ow [] J J2 ∧ (Hd_ R x I I2) ∧ (Hl_ R x I I2 525)) := by
  have r_1 := bc_z ra1 hbc
  refine CtV.of (by decide +kernel) (Nat.le_of_ble_eq_true rfl) ?_
  intro p e s m below meth c B K
  have C := B.1
  have hF : Fq L κ ow [1230, 84700] I I := fq_rf
  have hG : Fq L κ ow [] J J := fq_rf
  obtain ⟨b_2, hb_2, hb_2L, hb_2k, hb_2n, hb_2o⟩ := shp_a (W9 x hLx) hkx 27 14 7 rfl (by decide)
  obtain ⟨b_3, hb_3, hb_3L, hb_3k, hb_3n, hb_3o⟩ := shp_a (W9 x hLx) hkx 26 14 7 rfl (by decide)
  obtain ⟨b_4, hb_4, hb_4L, hb_4k, hb_4n, hb_4o⟩ := shp_a (W9 x hLx) hkx 14 14 389 rfl (by decide)
  have ea0 : a0.toNatClampNeg = 7 := by have q1 := ix_n ra0 (by decide); have q2 := ra0.1; have q3 := ra0.2; omega
  refine g_lo (is := [0, 1, 2]) (lo2 := [(0, .ref x), (1, .int a0), (2, .int a1)]) rfl ?_
  have l_61 : ∀ (n_61 : Nat) (I_5 : Nat → Nat → Int32) (J_6 : Nat → Nat → Int64) (hU_7 : Iw L κ R ow I_5) (hF_8 : Fq L κ ow [1230, 84700] I I_5) (hG_9 : Fq L κ ow [] J J_6) (v_10 : Int32) (v_11 : Int32) (rv_11 : Rg 0 7 v_11) (q_12 : I_5 x 30 = v_10) (hd_13 : Hd_ R x I I_5) (hl_14 : Hl_ R x I I_5 525) (hm_15 : 7 < (v_11 : Int32).toInt + (n_61 : Int)), WG p l e { frames := 2, cells := 0, slots := 0, locals := 42 } s m ([.ref x, .int a0, .int a1] : List Value).toArray below meth c 5 0 0 (MQ below (Qv_ D cy L κ ln R (fun I2 J2 => Iw L κ R ow I2 ∧ Fq L κ ow [1230, 84700] I I2 ∧ Fq L κ ow [] J J2 ∧ (Hd_ R x I I2) ∧ (Hl_ R x I I2 525))) ([.ref x, .int a0, .int a1] : List Value).toArray s 0 0 (Al_ L)) D cy (Al_ L) s.heap L κ ln R I_5 J_6 61 [(0, .ref x), (1, .int a0), (2, .int a1), (3, .int v_10), (4, .int v_11)] [] := by
    intro n_61
    induction n_61 with
    | zero =>
      intro I_5 J_6 hU_7 hF_8 hG_9 v_10 v_11 rv_11 q_12 hd_13 hl_14 hm_15
      exact ms_0 rv_11 hm_15
    | succ n_61 ih_61 =>
      intro I_5 J_6 hU_7 hF_8 hG_9 v_10 v_11 rv_11 q_12 hd_13 hl_14 hm_15
      refine g_iload C 4 dX12_orderFrom_61 rfl ?_
      refine g_iload_n C 1 dX12_orderFrom_63 rfl rfl ?_
      refine g_icmp_ge C (tgt := 87) dX12_orderFrom_64 (by decide) (fun h_16 => ?_) (fun h_16 => ?_)
      · skip
        have r_17 := le_r (h_16) ra0 rv_11
        exact g_vret B K rfl ⟨hU_7, hF_8, hG_9, hd_13, hl_14⟩ dX12_orderFrom_87
      · skip
        have r_18 := lt_l (hi := 6) (nle h_16) rv_11 ra0 (by decide)
        refine g_aload_n C 0 dX12_orderFrom_67 rfl rfl ?_
        refine g_getR C K hLx hkx f_12_45 hb_2 dX12_orderFrom_68 ?_
        refine g_iload C 4 dX12_orderFrom_71 rfl ?_
        refine g_aload_n C 0 dX12_orderFrom_73 rfl rfl ?_
        refine g_getR C K hLx hkx f_12_42 hb_3 dX12_orderFrom_74 ?_
        refine g_iload C 4 dX12_orderFrom_77 rfl ?_
        obtain ⟨x_19, hx_19, rx_19⟩ := ex_any (z0 := I_5 b_3 (v_11.toNatClampNeg))
        refine h_iald C K hb_3L hb_3k (v := x_19) (v_11.toNatClampNeg) (rfl) (ix_0 r_18 (by decide)) (ix_lt r_18 (by decide) hb_3n (by decide)) hx_19 dX12_orderFrom_79 ?_
        refine h_iast C K hb_2L hb_2k (v_11.toNatClampNeg) (rfl) (ix_0 r_18 (by decide)) (ix_lt r_18 (by decide) hb_2n (by decide)) dX12_orderFrom_80 (fun I_20 hI_20 => ?_)
        have hU_21 := iw_put W9 hU_7 hI_20 (ro_a hb_2k (by decide) hb_2o hkx rfl) (lo := (-2147483648)) (hi := 2147483647) (rfl) (rx_19) rfl
        have hF_22 := fq_puta hF_8 hI_20 (ro_a hb_2k (by decide) hb_2o hkx rfl) (by decide) (by decide)
        obtain ⟨x_23, hx_23, rx_23, tx_23⟩ := ex_add (y := 1) 1 7 r_18 rc_1 (by decide) (by decide) (by decide) (by decide)
        refine g_iinc C dX12_orderFrom_81 (k := 4) (v := x_23) rfl hx_23 (by decide) (lo2 := [(4, .int x_23), (0, .ref x), (1, .int a0), (2, .int a1), (3, .int v_10)]) rfl ?_
        refine g_goto C (tgt := 61) dX12_orderFrom_84 (by decide) ?_
        refine g_lo (is := [1, 2, 3, 4, 0]) (lo2 := [(0, .ref x), (1, .int a0), (2, .int a1), (3, .int v_10), (4, .int x_23)]) rfl ?_
        exact ih_61 I_20 J_6 hU_21 hF_22 hG_9 v_10 x_23 (rg_w rx_23 (by decide) (by decide)) (kp_k (κ := κ) hI_20 (by rw [hkx, hb_2k]; decide) q_12) (hd_u W9 hLx hkx hd_13 hI_20 (Or.inr (Or.inl ⟨(ro_a hb_2k (by decide) hb_2o hkx rfl), by decide⟩))) (hl_u W9 hLx hkx hl_14 hI_20 ⟨(ro_a hb_2k (by decide) hb_2o hkx rfl), by decide⟩) (ms_1 hm_15 (ti_k tx_23 rc_1) (by decide))
  have l_9 : ∀ (n_9 : Nat) (I_24 : Nat → Nat → Int32) (J_25 : Nat → Nat → Int64) (hU_26 : Iw L κ R ow I_24) (hF_27 : Fq L κ ow [1230, 84700] I I_24) (hG_28 : Fq L κ ow [] J J_25) (v_29 : Int32) (v_30 : Int32) (rv_30 : Rg 0 7 v_30) (hd_31 : Hd_ R x I I_24) (hl_32 : Hl_ R x I I_24 525) (hm_33 : 7 < (v_30 : Int32).toInt + (n_9 : Int)), WG p l e { frames := 2, cells := 0, slots := 0, locals := 42 } s m ([.ref x, .int a0, .int a1] : List Value).toArray below meth c 5 0 0 (MQ below (Qv_ D cy L κ ln R (fun I2 J2 => Iw L κ R ow I2 ∧ Fq L κ ow [1230, 84700] I I2 ∧ Fq L κ ow [] J J2 ∧ (Hd_ R x I I2) ∧ (Hl_ R x I I2 525))) ([.ref x, .int a0, .int a1] : List Value).toArray s 0 0 (Al_ L)) D cy (Al_ L) s.heap L κ ln R I_24 J_25 9 [(0, .ref x), (1, .int a0), (2, .int a1), (3, .int v_29), (4, .int v_30)] [] := by
    intro n_9
    induction n_9 with
    | zero =>
      intro I_24 J_25 hU_26 hF_27 hG_28 v_29 v_30 rv_30 hd_31 hl_32 hm_33
      exact ms_0 rv_30 hm_33
    | succ n_9 ih_9 =>
      intro I_24 J_25 hU_26 hF_27 hG_28 v_29 v_30 rv_30 hd_31 hl_32 hm_33
      have j_38 : ∀ (I_34 : Nat → Nat → Int32) (J_35 : Nat → Nat → Int64) (hU_36 : Iw L κ R ow I_34) (hF_37 : Fq L κ ow [1230, 84700] I I_34) (hG_38 : Fq L κ ow [] J J_35) (v_39 : Int32) (v_40 : Int32) (rv_40 : Rg 0 6 v_40) (hm_41 : 7 < (v_40 : Int32).toInt + ((n_9 + 1 : Nat) : Int)) (hd_42 : Hd_ R x I I_34) (hl_43 : Hl_ R x I I_34 525), WG p l e { frames := 2, cells := 0, slots := 0, locals := 42 } s m ([.ref x, .int a0, .int a1] : List Value).toArray below meth c 5 0 0 (MQ below (Qv_ D cy L κ ln R (fun I2 J2 => Iw L κ R ow I2 ∧ Fq L κ ow [1230, 84700] I I2 ∧ Fq L κ ow [] J J2 ∧ (Hd_ R x I I2) ∧ (Hl_ R x I I2 525))) ([.ref x, .int a0, .int a1] : List Value).toArray s 0 0 (Al_ L)) D cy (Al_ L) s.heap L κ ln R I_34 J_35 38 [(0, .ref x), (1, .int a0), (2, .int a1), (3, .int v_39), (4, .int v_40)] [] := by
        intro I_34 J_35 hU_36 hF_37 hG_38 v_39 v_40 rv_40 hm_41 hd_42 hl_43
        obtain ⟨x_44, hx_44, rx_44, tx_44⟩ := ex_add (y := 1) 1 7 rv_40 rc_1 (by decide) (by decide) (by decide) (by decide)
        refine g_iinc C dX12_orderFrom_38 (k := 4) (v := x_44) rfl hx_44 (by decide) (lo2 := [(4, .int x_44), (0, .ref x), (1, .int a0), (2, .int a1), (3, .int v_39)]) rfl ?_
        refine g_goto C (tgt := 9) dX12_orderFrom_41 (by decide) ?_
        refine g_lo (is := [1, 2, 3, 4, 0]) (lo2 := [(0, .ref x), (1, .int a0), (2, .int a1), (3, .int v_39), (4, .int x_44)]) rfl ?_
        exact ih_9 I_34 J_35 hU_36 hF_37 hG_38 v_39 x_44 (rg_w rx_44 (by decide) (by decide)) hd_42 hl_43 (ms_1 hm_41 (ti_k tx_44 rc_1) (by decide))
      refine g_iload C 4 dX12_orderFrom_9 rfl ?_
      refine g_aload_n C 0 dX12_orderFrom_11 rfl rfl ?_
      refine g_getR C K hLx hkx f_12_13 hb_4 dX12_orderFrom_12 ?_
      refine g_iconst C (v := 0) dX12_orderFrom_15 (by decide) ?_
      obtain ⟨x_45, hx_45, rx_45⟩ := ex_getw (I := I_24) (a := b_4) (j := 0) (lo := 0) (hi := 7) hU_26.1 hb_4L (ro_a hb_4k (by decide) hb_4o hkx rfl) (by decide)
      refine h_iald C K hb_4L hb_4k (v := x_45) (0) (by decide) (by decide) (by rw [hb_4n]; decide) hx_45 dX12_orderFrom_16 ?_
      refine g_icmp_ge C (tgt := 44) dX12_orderFrom_17 (by decide) (fun h_46 => ?_) (fun h_46 => ?_)
      · skip
        refine g_iload_n C 3 dX12_orderFrom_44 rfl rfl ?_
        refine g_aload_n C 0 dX12_orderFrom_45 rfl rfl ?_
        obtain ⟨x_47, hx_47, rx_47⟩ := ex_getw (I := I_24) (a := x) (j := 30) (lo := (-2147483648)) (hi := 2147483647) hU_26.1 hLx (ro_o hkx (by decide)) rfl
        refine g_getI C K hLx hkx f_12_298 (v := x_47) hx_47 dX12_orderFrom_46 ?_
        refine g_icmp_lt C (tgt := 53) dX12_orderFrom_49 (by decide) (fun h_48 => ?_) (fun h_48 => ?_)
        · skip
          have r_49 := lt_l (hi := 2147483646) (h_48) (rg_all v_29) rx_47 (by decide)
          have r_50 := lt_r (lo := (-2147483647)) (h_48) (rg_all v_29) rx_47 (by decide)
          refine g_aload_n C 0 dX12_orderFrom_53 rfl rfl ?_
          refine g_iload_n C 3 dX12_orderFrom_54 rfl rfl ?_
          refine h_putI C K hLx hkx f_12_298 p_12_30 dX12_orderFrom_55 (fun I_51 hI_51 => ?_)
          have hU_52 := iw_put W9 hU_26 hI_51 (ro_o hkx (by decide)) (lo := (-2147483648)) (hi := 2147483647) (rfl) (rg_all _) rfl
          have hF_53 := fq_puto hF_27 hI_51 hkx (by decide) (by decide)
          refine g_iconst C (v := 0) dX12_orderFrom_58 (by decide) ?_
          refine g_istore C dX12_orderFrom_59 (by decide) (lo2 := [(4, .int 0), (0, .ref x), (1, .int a0), (2, .int a1), (3, .int v_29)]) rfl ?_
          refine g_lo (is := [1, 2, 3, 4, 0]) (lo2 := [(0, .ref x), (1, .int a0), (2, .int a1), (3, .int v_29), (4, .int 0)]) rfl ?_
          exact l_61 8 I_51 J_25 hU_52 hF_53 hG_28 v_29 0 (rg_w rc_0 (by decide) (by decide)) (kp_s hI_51) (hd_u (r := 0) W9 hLx hkx hd_31 hI_51 (Or.inl (ro_o hkx (by decide)))) (hl_u W9 hLx hkx hl_32 hI_51 ⟨(ro_o hkx (by decide)), by decide⟩) (ms_s (a := 0) (b := 7) (N := 8) (rg_w rc_0 (by decide) (by decide)) (by decide))
        · skip
          exact g_vret B K rfl ⟨hU_26, hF_27, hG_28, hd_31, hl_32⟩ dX12_orderFrom_52
      · skip
        have r_54 := lt_l (hi := 6) (nle h_46) rv_30 rx_45 (by decide)
        have r_55 := lt_r (lo := 1) (nle h_46) rv_30 rx_45 (by decide)
        refine g_aload_n C 0 dX12_orderFrom_20 rfl rfl ?_
        refine g_iload C 4 dX12_orderFrom_21 rfl ?_
        refine g_callVI C K (c_X12_isDead W9 hLx hkx v_30 (r_54) hU_26) hLx hkx (by decide) rfl v_12_244 rfl ⟨rfl, rfl⟩ ⟨Nat.le_of_ble_eq_true rfl, Nat.le_of_ble_eq_true rfl⟩ (Nat.le_of_ble_eq_true rfl) ⟨Nat.le_of_ble_eq_true rfl, Nat.le_of_ble_eq_true rfl⟩ dX12_orderFrom_23 rfl (st := []) (fun x_56 I_57 J_58 h_59 => ?_)
        obtain ⟨rfl, rfl, rx_56⟩ := h_59
        refine g_if_ne C (tgt := 38) dX12_orderFrom_26 (by decide) (fun h_60 => ?_) (fun h_60 => ?_)
        · skip
          have n_61 : ¬ x_56 = 0 := h_60
          have r_62 := ne_lo (lo := 1) n_61 rx_56 rc_0 rfl (by decide)
          refine g_lo (is := [0, 1, 2, 3, 4]) (lo2 := [(0, .ref x), (1, .int a0), (2, .int a1), (3, .int v_29), (4, .int v_30)]) rfl ?_
          exact j_38 I_24 J_25 hU_26 hF_27 hG_28 v_29 v_30 (r_54) hm_33 hd_31 hl_32
        · skip
          have r_63 := (⟨(rx_56).1, (eq_rg (h_60) rc_0).2⟩ : Rg 0 0 x_56)
          refine g_iload_n C 3 dX12_orderFrom_29 rfl rfl ?_
          refine g_aload_n C 0 dX12_orderFrom_30 rfl rfl ?_
          refine g_iload C 4 dX12_orderFrom_31 rfl ?_
          refine g_callVI C K (c_X12_wantsYet W9 hLx hkx v_30 (r_54) hU_26) hLx hkx (by decide) rfl v_12_268 rfl ⟨rfl, rfl⟩ ⟨Nat.le_of_ble_eq_true rfl, Nat.le_of_ble_eq_true rfl⟩ (Nat.le_of_ble_eq_true rfl) ⟨Nat.le_of_ble_eq_true rfl, Nat.le_of_ble_eq_true rfl⟩ dX12_orderFrom_33 rfl (st := [.int v_29]) (fun x_64 I_65 J_66 h_67 => ?_)
          obtain ⟨rfl, rfl, rx_64, ex_64⟩ := h_67
          obtain ⟨x_68, hx_68, rx_68⟩ := ex_any (z0 := v_29 + x_64)
          refine g_iadd C (v := x_68) dX12_orderFrom_36 hx_68 ?_
          refine g_istore_n C dX12_orderFrom_37 rfl (by decide) (lo2 := [(3, .int x_68), (0, .ref x), (1, .int a0), (2, .int a1), (4, .int v_30)]) rfl ?_
          refine g_lo (is := [1, 2, 3, 0, 4]) (lo2 := [(0, .ref x), (1, .int a0), (2, .int a1), (3, .int x_68), (4, .int v_30)]) rfl ?_
          exact j_38 I_24 J_25 hU_26 hF_27 hG_28 x_68 v_30 (r_54) hm_33 hd_31 hl_32
  refine g_iload_n C 2 dX12_orderFrom_0 rfl rfl ?_
  refine g_if_ne C (tgt := 88) dX12_orderFrom_1 (by decide) (fun h_69 => ?_) (fun h_69 => ?_)
  · skip
    exact ne_no (h_69) r_1 rc_0
  · skip
    refine g_iconst C (v := 0) dX12_orderFrom_4 (by decide) ?_
    refine g_istore_n C dX12_orderFrom_5 rfl (by decide) (lo2 := [(3, .int 0), (0, .ref x), (1, .int a0), (2, .int a1)]) rfl ?_
    refine g_iconst C (v := 0) dX12_orderFrom_6 (by decide) ?_
    refine g_istore C dX12_orderFrom_7 (by decide) (lo2 := [(4, .int 0), (3, .int 0), (0, .ref x), (1, .int a0), (2, .int a1)]) rfl ?_
    refine g_lo (is := [2, 3, 4, 1, 0]) (lo2 := [(0, .ref x), (1, .int a0), (2, .int a1), (3, .int 0), (4, .int 0)]) rfl ?_
    exact l_9 8 I J hU hF hG 0 0 (rg_w rc_0 (by decide) (by decide)) hd_rf hl_rf (ms_s (a := 0) (b := 7) (N := 8) (rg_w rc_0 (by decide) (by decide)) (by decide))
