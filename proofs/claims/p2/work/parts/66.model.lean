theorem dX12_act_0 : decode cX12_act 0 = .ok (.aload_n 0, 1) := by decide +kernel
theorem dX12_act_1 : decode cX12_act 1 = .ok (.iload_n 1, 1) := by decide +kernel
theorem dX12_act_2 : decode cX12_act 2 = .ok (.iload_n 2, 1) := by decide +kernel
theorem dX12_act_3 : decode cX12_act 3 = .ok (.iload_n 3, 1) := by decide +kernel
theorem dX12_act_4 : decode cX12_act 4 = .ok (.iload 4, 2) := by decide +kernel
theorem dX12_act_6 : decode cX12_act 6 = .ok (.invokevirtual 278, 3) := by decide +kernel
theorem dX12_act_9 : decode cX12_act 9 = .ok (.istore 5, 2) := by decide +kernel
theorem dX12_act_11 : decode cX12_act 11 = .ok (.iload 5, 2) := by decide +kernel
theorem dX12_act_13 : decode cX12_act 13 = .ok (.ifCond .eq 6, 3) := by decide +kernel
theorem dX12_act_16 : decode cX12_act 16 = .ok (.iload 5, 2) := by decide +kernel
theorem dX12_act_18 : decode cX12_act 18 = .ok (.ireturn, 1) := by decide +kernel
theorem dX12_act_19 : decode cX12_act 19 = .ok (.aload_n 0, 1) := by decide +kernel
theorem dX12_act_20 : decode cX12_act 20 = .ok (.invokevirtual 282, 3) := by decide +kernel
theorem dX12_act_23 : decode cX12_act 23 = .ok (.aload_n 0, 1) := by decide +kernel
theorem dX12_act_24 : decode cX12_act 24 = .ok (.iload_n 1, 1) := by decide +kernel
theorem dX12_act_25 : decode cX12_act 25 = .ok (.iload_n 2, 1) := by decide +kernel
theorem dX12_act_26 : decode cX12_act 26 = .ok (.iload_n 3, 1) := by decide +kernel
theorem dX12_act_27 : decode cX12_act 27 = .ok (.iload 4, 2) := by decide +kernel
theorem dX12_act_29 : decode cX12_act 29 = .ok (.invokevirtual 285, 3) := by decide +kernel
theorem dX12_act_32 : decode cX12_act 32 = .ok (.iconst 0, 1) := by decide +kernel
theorem dX12_act_33 : decode cX12_act 33 = .ok (.ireturn, 1) := by decide +kernel
theorem dX12_doEat_0 : decode cX12_doEat 0 = .ok (.aload_n 0, 1) := by decide +kernel
theorem dX12_doEat_1 : decode cX12_doEat 1 = .ok (.getfield 13, 3) := by decide +kernel
theorem dX12_doEat_4 : decode cX12_doEat 4 = .ok (.bipush 105, 2) := by decide +kernel
theorem dX12_doEat_6 : decode cX12_doEat 6 = .ok (.bipush 6, 2) := by decide +kernel
theorem dX12_doEat_8 : decode cX12_doEat 8 = .ok (.iload_n 1, 1) := by decide +kernel
theorem dX12_doEat_9 : decode cX12_doEat 9 = .ok (.imul, 1) := by decide +kernel
theorem dX12_doEat_10 : decode cX12_doEat 10 = .ok (.iadd, 1) := by decide +kernel
theorem dX12_doEat_11 : decode cX12_doEat 11 = .ok (.iload_n 2, 1) := by decide +kernel
theorem dX12_doEat_12 : decode cX12_doEat 12 = .ok (.iadd, 1) := by decide +kernel
theorem dX12_doEat_13 : decode cX12_doEat 13 = .ok (.dup2, 1) := by decide +kernel
theorem dX12_doEat_14 : decode cX12_doEat 14 = .ok (.iaload, 1) := by decide +kernel
theorem dX12_doEat_15 : decode cX12_doEat 15 = .ok (.iload_n 3, 1) := by decide +kernel
theorem dX12_doEat_16 : decode cX12_doEat 16 = .ok (.isub, 1) := by decide +kernel
theorem dX12_doEat_17 : decode cX12_doEat 17 = .ok (.iastore, 1) := by decide +kernel
theorem dX12_doEat_18 : decode cX12_doEat 18 = .ok (.aload_n 0, 1) := by decide +kernel
theorem dX12_doEat_19 : decode cX12_doEat 19 = .ok (.getfield 13, 3) := by decide +kernel
theorem dX12_doEat_22 : decode cX12_doEat 22 = .ok (.bipush 84, 2) := by decide +kernel
theorem dX12_doEat_24 : decode cX12_doEat 24 = .ok (.iload_n 1, 1) := by decide +kernel
theorem dX12_doEat_25 : decode cX12_doEat 25 = .ok (.iadd, 1) := by decide +kernel
theorem dX12_doEat_26 : decode cX12_doEat 26 = .ok (.dup2, 1) := by decide +kernel
theorem dX12_doEat_27 : decode cX12_doEat 27 = .ok (.iaload, 1) := by decide +kernel
theorem dX12_doEat_28 : decode cX12_doEat 28 = .ok (.iload_n 3, 1) := by decide +kernel
theorem dX12_doEat_29 : decode cX12_doEat 29 = .ok (.iadd, 1) := by decide +kernel
theorem dX12_doEat_30 : decode cX12_doEat 30 = .ok (.iastore, 1) := by decide +kernel
theorem dX12_doEat_31 : decode cX12_doEat 31 = .ok (.aload_n 0, 1) := by decide +kernel
theorem dX12_doEat_32 : decode cX12_doEat 32 = .ok (.getfield 13, 3) := by decide +kernel
theorem dX12_doEat_35 : decode cX12_doEat 35 = .ok (.bipush 91, 2) := by decide +kernel
theorem dX12_doEat_37 : decode cX12_doEat 37 = .ok (.iload_n 1, 1) := by decide +kernel
theorem dX12_doEat_38 : decode cX12_doEat 38 = .ok (.iadd, 1) := by decide +kernel
theorem dX12_doEat_39 : decode cX12_doEat 39 = .ok (.dup2, 1) := by decide +kernel
theorem dX12_doEat_40 : decode cX12_doEat 40 = .ok (.iaload, 1) := by decide +kernel
theorem dX12_doEat_41 : decode cX12_doEat 41 = .ok (.iload_n 3, 1) := by decide +kernel
theorem dX12_doEat_42 : decode cX12_doEat 42 = .ok (.iadd, 1) := by decide +kernel
theorem dX12_doEat_43 : decode cX12_doEat 43 = .ok (.iastore, 1) := by decide +kernel
theorem dX12_doEat_44 : decode cX12_doEat 44 = .ok (.return_, 1) := by decide +kernel
theorem dX12_eat_0 : decode cX12_eat 0 = .ok (.aload_n 0, 1) := by decide +kernel
theorem dX12_eat_1 : decode cX12_eat 1 = .ok (.iconst 0, 1) := by decide +kernel
theorem dX12_eat_2 : decode cX12_eat 2 = .ok (.putfield 82, 3) := by decide +kernel
theorem dX12_eat_5 : decode cX12_eat 5 = .ok (.aload_n 0, 1) := by decide +kernel
theorem dX12_eat_6 : decode cX12_eat 6 = .ok (.iload_n 1, 1) := by decide +kernel
theorem dX12_eat_7 : decode cX12_eat 7 = .ok (.invokevirtual 238, 3) := by decide +kernel
theorem dX12_eat_10 : decode cX12_eat 10 = .ok (.ifCond .eq 32, 3) := by decide +kernel
theorem dX12_eat_13 : decode cX12_eat 13 = .ok (.aload_n 0, 1) := by decide +kernel
theorem dX12_eat_14 : decode cX12_eat 14 = .ok (.iload_n 2, 1) := by decide +kernel
theorem dX12_eat_15 : decode cX12_eat 15 = .ok (.invokevirtual 250, 3) := by decide +kernel
theorem dX12_eat_18 : decode cX12_eat 18 = .ok (.ifCond .eq 24, 3) := by decide +kernel
theorem dX12_eat_21 : decode cX12_eat 21 = .ok (.iload_n 3, 1) := by decide +kernel
theorem dX12_eat_22 : decode cX12_eat 22 = .ok (.iconst 1, 1) := by decide +kernel
theorem dX12_eat_23 : decode cX12_eat 23 = .ok (.bipush 20, 2) := by decide +kernel
theorem dX12_eat_25 : decode cX12_eat 25 = .ok (.invokestatic 149, 3) := by decide +kernel
theorem dX12_eat_28 : decode cX12_eat 28 = .ok (.ifCond .eq 14, 3) := by decide +kernel
theorem dX12_eat_31 : decode cX12_eat 31 = .ok (.aload_n 0, 1) := by decide +kernel
theorem dX12_eat_32 : decode cX12_eat 32 = .ok (.iconst 0, 1) := by decide +kernel
theorem dX12_eat_33 : decode cX12_eat 33 = .ok (.iload_n 1, 1) := by decide +kernel
theorem dX12_eat_34 : decode cX12_eat 34 = .ok (.iload_n 2, 1) := by decide +kernel
theorem dX12_eat_35 : decode cX12_eat 35 = .ok (.iload_n 3, 1) := by decide +kernel
theorem dX12_eat_36 : decode cX12_eat 36 = .ok (.invokevirtual 289, 3) := by decide +kernel
theorem dX12_eat_39 : decode cX12_eat 39 = .ok (.goto 4, 3) := by decide +kernel
theorem dX12_eat_42 : decode cX12_eat 42 = .ok (.iconst (-1), 1) := by decide +kernel
theorem dX12_eat_43 : decode cX12_eat 43 = .ok (.ireturn, 1) := by decide +kernel
theorem dX12_eatsAll_0 : decode cX12_eatsAll 0 = .ok (.iconst 0, 1) := by decide +kernel
theorem dX12_eatsAll_1 : decode cX12_eatsAll 1 = .ok (.istore_n 2, 1) := by decide +kernel
theorem dX12_eatsAll_2 : decode cX12_eatsAll 2 = .ok (.iload_n 2, 1) := by decide +kernel
theorem dX12_eatsAll_3 : decode cX12_eatsAll 3 = .ok (.bipush 6, 2) := by decide +kernel
theorem dX12_eatsAll_5 : decode cX12_eatsAll 5 = .ok (.if_icmp .ge 29, 3) := by decide +kernel
theorem dX12_eatsAll_8 : decode cX12_eatsAll 8 = .ok (.aload_n 0, 1) := by decide +kernel
theorem dX12_eatsAll_9 : decode cX12_eatsAll 9 = .ok (.iload_n 1, 1) := by decide +kernel
theorem dX12_eatsAll_10 : decode cX12_eatsAll 10 = .ok (.iload_n 2, 1) := by decide +kernel
theorem dX12_eatsAll_11 : decode cX12_eatsAll 11 = .ok (.aload_n 0, 1) := by decide +kernel
theorem dX12_eatsAll_12 : decode cX12_eatsAll 12 = .ok (.iload_n 1, 1) := by decide +kernel
theorem dX12_eatsAll_13 : decode cX12_eatsAll 13 = .ok (.iload_n 2, 1) := by decide +kernel
theorem dX12_eatsAll_14 : decode cX12_eatsAll 14 = .ok (.invokevirtual 234, 3) := by decide +kernel
theorem dX12_eatsAll_17 : decode cX12_eatsAll 17 = .ok (.aload_n 0, 1) := by decide +kernel
theorem dX12_eatsAll_18 : decode cX12_eatsAll 18 = .ok (.iload_n 1, 1) := by decide +kernel
theorem dX12_eatsAll_19 : decode cX12_eatsAll 19 = .ok (.invokevirtual 268, 3) := by decide +kernel
theorem dX12_eatsAll_22 : decode cX12_eatsAll 22 = .ok (.invokestatic 265, 3) := by decide +kernel
theorem dX12_eatsAll_25 : decode cX12_eatsAll 25 = .ok (.invokevirtual 271, 3) := by decide +kernel
theorem dX12_eatsAll_28 : decode cX12_eatsAll 28 = .ok (.iinc 2 1, 3) := by decide +kernel
theorem dX12_eatsAll_31 : decode cX12_eatsAll 31 = .ok (.goto (-29), 3) := by decide +kernel
theorem dX12_eatsAll_34 : decode cX12_eatsAll 34 = .ok (.return_, 1) := by decide +kernel
theorem dX12_image_0 : decode cX12_image 0 = .ok (.aload_n 0, 1) := by decide +kernel
theorem dX12_image_1 : decode cX12_image 1 = .ok (.iconst 0, 1) := by decide +kernel
theorem dX12_image_2 : decode cX12_image 2 = .ok (.putfield 82, 3) := by decide +kernel
theorem dX12_image_5 : decode cX12_image 5 = .ok (.iload_n 1, 1) := by decide +kernel
theorem dX12_image_6 : decode cX12_image 6 = .ok (.iconst 0, 1) := by decide +kernel
theorem dX12_image_7 : decode cX12_image 7 = .ok (.iconst 1, 1) := by decide +kernel
theorem dX12_image_8 : decode cX12_image 8 = .ok (.invokestatic 149, 3) := by decide +kernel
theorem dX12_image_11 : decode cX12_image 11 = .ok (.ifCond .ne 5, 3) := by decide +kernel
theorem dX12_image_14 : decode cX12_image 14 = .ok (.iconst 0, 1) := by decide +kernel
theorem dX12_image_15 : decode cX12_image 15 = .ok (.ireturn, 1) := by decide +kernel
theorem dX12_image_16 : decode cX12_image 16 = .ok (.iconst 0, 1) := by decide +kernel
theorem dX12_image_17 : decode cX12_image 17 = .ok (.istore_n 2, 1) := by decide +kernel
theorem dX12_image_18 : decode cX12_image 18 = .ok (.iload_n 2, 1) := by decide +kernel
theorem dX12_image_19 : decode cX12_image 19 = .ok (.sipush 389, 3) := by decide +kernel
theorem dX12_image_22 : decode cX12_image 22 = .ok (.if_icmp .ge 27, 3) := by decide +kernel
theorem dX12_image_25 : decode cX12_image 25 = .ok (.aload_n 0, 1) := by decide +kernel
theorem dX12_image_26 : decode cX12_image 26 = .ok (.getfield 19, 3) := by decide +kernel
theorem dX12_image_29 : decode cX12_image 29 = .ok (.sipush 389, 3) := by decide +kernel
theorem dX12_image_32 : decode cX12_image 32 = .ok (.iload_n 1, 1) := by decide +kernel
theorem dX12_image_33 : decode cX12_image 33 = .ok (.imul, 1) := by decide +kernel
theorem dX12_image_34 : decode cX12_image 34 = .ok (.iload_n 2, 1) := by decide +kernel
theorem dX12_image_35 : decode cX12_image 35 = .ok (.iadd, 1) := by decide +kernel
theorem dX12_image_36 : decode cX12_image 36 = .ok (.aload_n 0, 1) := by decide +kernel
theorem dX12_image_37 : decode cX12_image 37 = .ok (.getfield 13, 3) := by decide +kernel
theorem dX12_image_40 : decode cX12_image 40 = .ok (.iload_n 2, 1) := by decide +kernel
theorem dX12_image_41 : decode cX12_image 41 = .ok (.iaload, 1) := by decide +kernel
theorem dX12_image_42 : decode cX12_image 42 = .ok (.iastore, 1) := by decide +kernel
theorem dX12_image_43 : decode cX12_image 43 = .ok (.iinc 2 1, 3) := by decide +kernel
theorem dX12_image_46 : decode cX12_image 46 = .ok (.goto (-28), 3) := by decide +kernel
theorem dX12_image_49 : decode cX12_image 49 = .ok (.iconst 0, 1) := by decide +kernel
theorem dX12_image_50 : decode cX12_image 50 = .ok (.istore_n 2, 1) := by decide +kernel
theorem dX12_image_51 : decode cX12_image 51 = .ok (.iload_n 2, 1) := by decide +kernel
theorem dX12_image_52 : decode cX12_image 52 = .ok (.bipush 13, 2) := by decide +kernel
theorem dX12_image_54 : decode cX12_image 54 = .ok (.if_icmp .ge 26, 3) := by decide +kernel
theorem dX12_image_57 : decode cX12_image 57 = .ok (.aload_n 0, 1) := by decide +kernel
theorem dX12_image_58 : decode cX12_image 58 = .ok (.getfield 35, 3) := by decide +kernel
theorem dX12_image_61 : decode cX12_image 61 = .ok (.bipush 13, 2) := by decide +kernel
theorem dX12_image_63 : decode cX12_image 63 = .ok (.iload_n 1, 1) := by decide +kernel
theorem dX12_image_64 : decode cX12_image 64 = .ok (.imul, 1) := by decide +kernel
theorem dX12_image_65 : decode cX12_image 65 = .ok (.iload_n 2, 1) := by decide +kernel
theorem dX12_image_66 : decode cX12_image 66 = .ok (.iadd, 1) := by decide +kernel
theorem dX12_image_67 : decode cX12_image 67 = .ok (.aload_n 0, 1) := by decide +kernel
theorem dX12_image_68 : decode cX12_image 68 = .ok (.getfield 28, 3) := by decide +kernel
theorem dX12_image_71 : decode cX12_image 71 = .ok (.iload_n 2, 1) := by decide +kernel
theorem dX12_image_72 : decode cX12_image 72 = .ok (.laload, 1) := by decide +kernel
theorem dX12_image_73 : decode cX12_image 73 = .ok (.lastore, 1) := by decide +kernel
theorem dX12_image_74 : decode cX12_image 74 = .ok (.iinc 2 1, 3) := by decide +kernel
theorem dX12_image_77 : decode cX12_image 77 = .ok (.goto (-26), 3) := by decide +kernel
theorem dX12_image_80 : decode cX12_image 80 = .ok (.aload_n 0, 1) := by decide +kernel
theorem dX12_image_81 : decode cX12_image 81 = .ok (.getfield 38, 3) := by decide +kernel
theorem dX12_image_84 : decode cX12_image 84 = .ok (.iload_n 1, 1) := by decide +kernel
theorem dX12_image_85 : decode cX12_image 85 = .ok (.iconst 1, 1) := by decide +kernel
theorem dX12_image_86 : decode cX12_image 86 = .ok (.bastore, 1) := by decide +kernel
theorem dX12_image_87 : decode cX12_image 87 = .ok (.iconst 1, 1) := by decide +kernel
theorem dX12_image_88 : decode cX12_image 88 = .ok (.ireturn, 1) := by decide +kernel
theorem dX12_layAside_0 : decode cX12_layAside 0 = .ok (.iconst 0, 1) := by decide +kernel
theorem dX12_layAside_1 : decode cX12_layAside 1 = .ok (.istore_n 1, 1) := by decide +kernel
theorem dX12_layAside_2 : decode cX12_layAside 2 = .ok (.iload_n 1, 1) := by decide +kernel
theorem dX12_layAside_3 : decode cX12_layAside 3 = .ok (.bipush 75, 2) := by decide +kernel
theorem dX12_layAside_5 : decode cX12_layAside 5 = .ok (.if_icmp .ge 24, 3) := by decide +kernel
theorem dX12_layAside_8 : decode cX12_layAside 8 = .ok (.aload_n 0, 1) := by decide +kernel
theorem dX12_layAside_9 : decode cX12_layAside 9 = .ok (.getfield 25, 3) := by decide +kernel
theorem dX12_layAside_12 : decode cX12_layAside 12 = .ok (.iload_n 1, 1) := by decide +kernel
theorem dX12_layAside_13 : decode cX12_layAside 13 = .ok (.aload_n 0, 1) := by decide +kernel
theorem dX12_layAside_14 : decode cX12_layAside 14 = .ok (.getfield 13, 3) := by decide +kernel
theorem dX12_layAside_17 : decode cX12_layAside 17 = .ok (.bipush 72, 2) := by decide +kernel
theorem dX12_layAside_19 : decode cX12_layAside 19 = .ok (.iload_n 1, 1) := by decide +kernel
theorem dX12_layAside_20 : decode cX12_layAside 20 = .ok (.iadd, 1) := by decide +kernel
theorem dX12_layAside_21 : decode cX12_layAside 21 = .ok (.iaload, 1) := by decide +kernel
theorem dX12_layAside_22 : decode cX12_layAside 22 = .ok (.iastore, 1) := by decide +kernel
theorem dX12_layAside_23 : decode cX12_layAside 23 = .ok (.iinc 1 1, 3) := by decide +kernel
theorem dX12_layAside_26 : decode cX12_layAside 26 = .ok (.goto (-24), 3) := by decide +kernel
theorem dX12_layAside_29 : decode cX12_layAside 29 = .ok (.return_, 1) := by decide +kernel
theorem dX12_least_0 : decode cX12_least 0 = .ok (.iload_n 0, 1) := by decide +kernel
theorem dX12_least_1 : decode cX12_least 1 = .ok (.iload_n 1, 1) := by decide +kernel
theorem dX12_least_2 : decode cX12_least 2 = .ok (.if_icmp .ge 7, 3) := by decide +kernel
theorem dX12_least_5 : decode cX12_least 5 = .ok (.iload_n 0, 1) := by decide +kernel
theorem dX12_least_6 : decode cX12_least 6 = .ok (.goto 4, 3) := by decide +kernel
theorem dX12_least_9 : decode cX12_least 9 = .ok (.iload_n 1, 1) := by decide +kernel
theorem dX12_least_10 : decode cX12_least 10 = .ok (.ireturn, 1) := by decide +kernel
theorem dX12_live_0 : decode cX12_live 0 = .ok (.iload_n 1, 1) := by decide +kernel
theorem dX12_live_1 : decode cX12_live 1 = .ok (.tableswitch 98 0 4 #[35, 44, 78, 84, 84], 35) := by decide +kernel
theorem dX12_live_36 : decode cX12_live 36 = .ok (.aload_n 0, 1) := by decide +kernel
theorem dX12_live_37 : decode cX12_live 37 = .ok (.iload_n 2, 1) := by decide +kernel
theorem dX12_live_38 : decode cX12_live 38 = .ok (.iload_n 3, 1) := by decide +kernel
theorem dX12_live_39 : decode cX12_live 39 = .ok (.iload 4, 2) := by decide +kernel
theorem dX12_live_41 : decode cX12_live 41 = .ok (.invokevirtual 271, 3) := by decide +kernel
theorem dX12_live_44 : decode cX12_live 44 = .ok (.return_, 1) := by decide +kernel
theorem dX12_live_45 : decode cX12_live 45 = .ok (.aload_n 0, 1) := by decide +kernel
theorem dX12_live_46 : decode cX12_live 46 = .ok (.getfield 13, 3) := by decide +kernel
theorem dX12_live_49 : decode cX12_live 49 = .ok (.bipush 78, 2) := by decide +kernel
theorem dX12_live_51 : decode cX12_live 51 = .ok (.iload_n 3, 1) := by decide +kernel
theorem dX12_live_52 : decode cX12_live 52 = .ok (.iadd, 1) := by decide +kernel
theorem dX12_live_53 : decode cX12_live 53 = .ok (.dup2, 1) := by decide +kernel
theorem dX12_live_54 : decode cX12_live 54 = .ok (.iaload, 1) := by decide +kernel
theorem dX12_live_55 : decode cX12_live 55 = .ok (.iload 4, 2) := by decide +kernel
theorem dX12_live_57 : decode cX12_live 57 = .ok (.isub, 1) := by decide +kernel
theorem dX12_live_58 : decode cX12_live 58 = .ok (.iastore, 1) := by decide +kernel
theorem dX12_live_59 : decode cX12_live 59 = .ok (.aload_n 0, 1) := by decide +kernel
theorem dX12_live_60 : decode cX12_live 60 = .ok (.getfield 13, 3) := by decide +kernel
theorem dX12_live_63 : decode cX12_live 63 = .ok (.bipush 105, 2) := by decide +kernel
theorem dX12_live_65 : decode cX12_live 65 = .ok (.bipush 6, 2) := by decide +kernel
theorem dX12_live_67 : decode cX12_live 67 = .ok (.iload_n 2, 1) := by decide +kernel
theorem dX12_live_68 : decode cX12_live 68 = .ok (.imul, 1) := by decide +kernel
theorem dX12_live_69 : decode cX12_live 69 = .ok (.iadd, 1) := by decide +kernel
theorem dX12_live_70 : decode cX12_live 70 = .ok (.iload_n 3, 1) := by decide +kernel
theorem dX12_live_71 : decode cX12_live 71 = .ok (.iadd, 1) := by decide +kernel
theorem dX12_live_72 : decode cX12_live 72 = .ok (.dup2, 1) := by decide +kernel
theorem dX12_live_73 : decode cX12_live 73 = .ok (.iaload, 1) := by decide +kernel
theorem dX12_live_74 : decode cX12_live 74 = .ok (.iload 4, 2) := by decide +kernel
theorem dX12_live_76 : decode cX12_live 76 = .ok (.iadd, 1) := by decide +kernel
theorem dX12_live_77 : decode cX12_live 77 = .ok (.iastore, 1) := by decide +kernel
theorem dX12_live_78 : decode cX12_live 78 = .ok (.return_, 1) := by decide +kernel
theorem dX12_live_79 : decode cX12_live 79 = .ok (.aload_n 0, 1) := by decide +kernel
theorem dX12_live_80 : decode cX12_live 80 = .ok (.iload_n 2, 1) := by decide +kernel
theorem dX12_live_81 : decode cX12_live 81 = .ok (.invokevirtual 275, 3) := by decide +kernel
theorem dX12_live_84 : decode cX12_live 84 = .ok (.return_, 1) := by decide +kernel
theorem dX12_live_85 : decode cX12_live 85 = .ok (.aload_n 0, 1) := by decide +kernel
theorem dX12_live_86 : decode cX12_live 86 = .ok (.getfield 13, 3) := by decide +kernel
theorem dX12_live_89 : decode cX12_live 89 = .ok (.bipush 74, 2) := by decide +kernel
theorem dX12_live_91 : decode cX12_live 91 = .ok (.dup2, 1) := by decide +kernel
theorem dX12_live_92 : decode cX12_live 92 = .ok (.iaload, 1) := by decide +kernel
theorem dX12_live_93 : decode cX12_live 93 = .ok (.iconst 1, 1) := by decide +kernel
theorem dX12_live_94 : decode cX12_live 94 = .ok (.iload_n 2, 1) := by decide +kernel
theorem dX12_live_95 : decode cX12_live 95 = .ok (.ishl, 1) := by decide +kernel
theorem dX12_live_96 : decode cX12_live 96 = .ok (.ixor, 1) := by decide +kernel
theorem dX12_live_97 : decode cX12_live 97 = .ok (.iastore, 1) := by decide +kernel
theorem dX12_live_98 : decode cX12_live 98 = .ok (.return_, 1) := by decide +kernel
theorem dX12_live_99 : decode cX12_live 99 = .ok (.aload_n 0, 1) := by decide +kernel
theorem dX12_live_100 : decode cX12_live 100 = .ok (.getfield 13, 3) := by decide +kernel
theorem dX12_live_103 : decode cX12_live 103 = .ok (.bipush 73, 2) := by decide +kernel
theorem dX12_live_105 : decode cX12_live 105 = .ok (.dup2, 1) := by decide +kernel
theorem dX12_live_106 : decode cX12_live 106 = .ok (.iaload, 1) := by decide +kernel
theorem dX12_live_107 : decode cX12_live 107 = .ok (.iconst 1, 1) := by decide +kernel
theorem dX12_live_108 : decode cX12_live 108 = .ok (.iload_n 2, 1) := by decide +kernel
theorem dX12_live_109 : decode cX12_live 109 = .ok (.ishl, 1) := by decide +kernel
theorem dX12_live_110 : decode cX12_live 110 = .ok (.ior, 1) := by decide +kernel
theorem dX12_live_111 : decode cX12_live 111 = .ok (.iastore, 1) := by decide +kernel
theorem dX12_live_112 : decode cX12_live 112 = .ok (.aload_n 0, 1) := by decide +kernel
theorem dX12_live_113 : decode cX12_live 113 = .ok (.iload_n 2, 1) := by decide +kernel
theorem dX12_live_114 : decode cX12_live 114 = .ok (.invokevirtual 247, 3) := by decide +kernel
theorem dX12_live_117 : decode cX12_live 117 = .ok (.ifCond .le 8, 3) := by decide +kernel
theorem dX12_live_120 : decode cX12_live 120 = .ok (.aload_n 0, 1) := by decide +kernel
theorem dX12_live_121 : decode cX12_live 121 = .ok (.iload_n 2, 1) := by decide +kernel
theorem dX12_live_122 : decode cX12_live 122 = .ok (.invokevirtual 275, 3) := by decide +kernel
theorem dX12_live_125 : decode cX12_live 125 = .ok (.return_, 1) := by decide +kernel
theorem dX12_pass_0 : decode cX12_pass 0 = .ok (.aload_n 0, 1) := by decide +kernel
theorem dX12_pass_1 : decode cX12_pass 1 = .ok (.iload_n 1, 1) := by decide +kernel
theorem dX12_pass_2 : decode cX12_pass 2 = .ok (.aload_n 0, 1) := by decide +kernel
theorem dX12_pass_3 : decode cX12_pass 3 = .ok (.invokevirtual 259, 3) := by decide +kernel
theorem dX12_pass_6 : decode cX12_pass 6 = .ok (.invokevirtual 262, 3) := by decide +kernel
theorem dX12_pass_9 : decode cX12_pass 9 = .ok (.istore_n 2, 1) := by decide +kernel
theorem dX12_pass_10 : decode cX12_pass 10 = .ok (.aload_n 0, 1) := by decide +kernel
theorem dX12_pass_11 : decode cX12_pass 11 = .ok (.getfield 13, 3) := by decide +kernel
theorem dX12_pass_14 : decode cX12_pass 14 = .ok (.iconst 3, 1) := by decide +kernel
theorem dX12_pass_15 : decode cX12_pass 15 = .ok (.iaload, 1) := by decide +kernel
theorem dX12_pass_16 : decode cX12_pass 16 = .ok (.istore_n 3, 1) := by decide +kernel
theorem dX12_pass_17 : decode cX12_pass 17 = .ok (.iconst 0, 1) := by decide +kernel
theorem dX12_pass_18 : decode cX12_pass 18 = .ok (.istore 4, 2) := by decide +kernel
theorem dX12_pass_20 : decode cX12_pass 20 = .ok (.iload 4, 2) := by decide +kernel
theorem dX12_pass_22 : decode cX12_pass 22 = .ok (.bipush 6, 2) := by decide +kernel
theorem dX12_pass_24 : decode cX12_pass 24 = .ok (.if_icmp .ge 95, 3) := by decide +kernel
theorem dX12_pass_27 : decode cX12_pass 27 = .ok (.aload_n 0, 1) := by decide +kernel
theorem dX12_pass_28 : decode cX12_pass 28 = .ok (.iload_n 1, 1) := by decide +kernel
theorem dX12_pass_29 : decode cX12_pass 29 = .ok (.iload 4, 2) := by decide +kernel
theorem dX12_pass_31 : decode cX12_pass 31 = .ok (.invokevirtual 234, 3) := by decide +kernel
theorem dX12_pass_34 : decode cX12_pass 34 = .ok (.istore 5, 2) := by decide +kernel
theorem dX12_pass_36 : decode cX12_pass 36 = .ok (.iload 5, 2) := by decide +kernel
theorem dX12_pass_38 : decode cX12_pass 38 = .ok (.iload_n 3, 1) := by decide +kernel
theorem dX12_pass_39 : decode cX12_pass 39 = .ok (.invokestatic 265, 3) := by decide +kernel
theorem dX12_pass_42 : decode cX12_pass 42 = .ok (.istore 6, 2) := by decide +kernel
theorem dX12_pass_44 : decode cX12_pass 44 = .ok (.iload_n 3, 1) := by decide +kernel
theorem dX12_pass_45 : decode cX12_pass 45 = .ok (.iload 6, 2) := by decide +kernel
theorem dX12_pass_47 : decode cX12_pass 47 = .ok (.isub, 1) := by decide +kernel
theorem dX12_pass_48 : decode cX12_pass 48 = .ok (.istore_n 3, 1) := by decide +kernel
theorem dX12_pass_49 : decode cX12_pass 49 = .ok (.aload_n 0, 1) := by decide +kernel
theorem dX12_pass_50 : decode cX12_pass 50 = .ok (.getfield 13, 3) := by decide +kernel
theorem dX12_pass_53 : decode cX12_pass 53 = .ok (.bipush 105, 2) := by decide +kernel
theorem dX12_pass_55 : decode cX12_pass 55 = .ok (.bipush 6, 2) := by decide +kernel
theorem dX12_pass_57 : decode cX12_pass 57 = .ok (.iload_n 1, 1) := by decide +kernel
theorem dX12_pass_58 : decode cX12_pass 58 = .ok (.imul, 1) := by decide +kernel
theorem dX12_pass_59 : decode cX12_pass 59 = .ok (.iadd, 1) := by decide +kernel
theorem dX12_pass_60 : decode cX12_pass 60 = .ok (.iload 4, 2) := by decide +kernel
theorem dX12_pass_62 : decode cX12_pass 62 = .ok (.iadd, 1) := by decide +kernel
theorem dX12_pass_63 : decode cX12_pass 63 = .ok (.iconst 0, 1) := by decide +kernel
theorem dX12_pass_64 : decode cX12_pass 64 = .ok (.iastore, 1) := by decide +kernel
theorem dX12_pass_65 : decode cX12_pass 65 = .ok (.aload_n 0, 1) := by decide +kernel
theorem dX12_pass_66 : decode cX12_pass 66 = .ok (.getfield 13, 3) := by decide +kernel
theorem dX12_pass_69 : decode cX12_pass 69 = .ok (.bipush 75, 2) := by decide +kernel
theorem dX12_pass_71 : decode cX12_pass 71 = .ok (.dup2, 1) := by decide +kernel
theorem dX12_pass_72 : decode cX12_pass 72 = .ok (.iaload, 1) := by decide +kernel
theorem dX12_pass_73 : decode cX12_pass 73 = .ok (.iload 6, 2) := by decide +kernel
theorem dX12_pass_75 : decode cX12_pass 75 = .ok (.iadd, 1) := by decide +kernel
theorem dX12_pass_76 : decode cX12_pass 76 = .ok (.iastore, 1) := by decide +kernel
theorem dX12_pass_77 : decode cX12_pass 77 = .ok (.aload_n 0, 1) := by decide +kernel
theorem dX12_pass_78 : decode cX12_pass 78 = .ok (.getfield 13, 3) := by decide +kernel
theorem dX12_pass_81 : decode cX12_pass 81 = .ok (.iload_n 2, 1) := by decide +kernel
theorem dX12_pass_82 : decode cX12_pass 82 = .ok (.iconst (-1), 1) := by decide +kernel
theorem dX12_pass_83 : decode cX12_pass 83 = .ok (.if_icmp .ne 11, 3) := by decide +kernel
theorem dX12_pass_86 : decode cX12_pass 86 = .ok (.bipush 78, 2) := by decide +kernel
theorem dX12_pass_88 : decode cX12_pass 88 = .ok (.iload 4, 2) := by decide +kernel
theorem dX12_pass_90 : decode cX12_pass 90 = .ok (.iadd, 1) := by decide +kernel
theorem dX12_pass_91 : decode cX12_pass 91 = .ok (.goto 13, 3) := by decide +kernel
theorem dX12_pass_94 : decode cX12_pass 94 = .ok (.bipush 105, 2) := by decide +kernel
theorem dX12_pass_96 : decode cX12_pass 96 = .ok (.bipush 6, 2) := by decide +kernel
theorem dX12_pass_98 : decode cX12_pass 98 = .ok (.iload_n 2, 1) := by decide +kernel
theorem dX12_pass_99 : decode cX12_pass 99 = .ok (.imul, 1) := by decide +kernel
theorem dX12_pass_100 : decode cX12_pass 100 = .ok (.iadd, 1) := by decide +kernel
theorem dX12_pass_101 : decode cX12_pass 101 = .ok (.iload 4, 2) := by decide +kernel
theorem dX12_pass_103 : decode cX12_pass 103 = .ok (.iadd, 1) := by decide +kernel
theorem dX12_pass_104 : decode cX12_pass 104 = .ok (.dup2, 1) := by decide +kernel
theorem dX12_pass_105 : decode cX12_pass 105 = .ok (.iaload, 1) := by decide +kernel
theorem dX12_pass_106 : decode cX12_pass 106 = .ok (.iload 5, 2) := by decide +kernel
theorem dX12_pass_108 : decode cX12_pass 108 = .ok (.iload 6, 2) := by decide +kernel
theorem dX12_pass_110 : decode cX12_pass 110 = .ok (.isub, 1) := by decide +kernel
theorem dX12_pass_111 : decode cX12_pass 111 = .ok (.iadd, 1) := by decide +kernel
theorem dX12_pass_112 : decode cX12_pass 112 = .ok (.iastore, 1) := by decide +kernel
theorem dX12_pass_113 : decode cX12_pass 113 = .ok (.iinc 4 1, 3) := by decide +kernel
theorem dX12_pass_116 : decode cX12_pass 116 = .ok (.goto (-96), 3) := by decide +kernel
theorem dX12_pass_119 : decode cX12_pass 119 = .ok (.aload_n 0, 1) := by decide +kernel
theorem dX12_pass_120 : decode cX12_pass 120 = .ok (.getfield 13, 3) := by decide +kernel
theorem dX12_pass_123 : decode cX12_pass 123 = .ok (.bipush 77, 2) := by decide +kernel
theorem dX12_pass_125 : decode cX12_pass 125 = .ok (.dup2, 1) := by decide +kernel
theorem dX12_pass_126 : decode cX12_pass 126 = .ok (.iaload, 1) := by decide +kernel
theorem dX12_pass_127 : decode cX12_pass 127 = .ok (.iconst 1, 1) := by decide +kernel
theorem dX12_pass_128 : decode cX12_pass 128 = .ok (.iadd, 1) := by decide +kernel
theorem dX12_pass_129 : decode cX12_pass 129 = .ok (.iastore, 1) := by decide +kernel
theorem dX12_pass_130 : decode cX12_pass 130 = .ok (.return_, 1) := by decide +kernel
theorem dX12_snap_0 : decode cX12_snap 0 = .ok (.aload_n 0, 1) := by decide +kernel
theorem dX12_snap_1 : decode cX12_snap 1 = .ok (.getfield 228, 3) := by decide +kernel
theorem dX12_snap_4 : decode cX12_snap 4 = .ok (.bipush 8, 2) := by decide +kernel
theorem dX12_snap_6 : decode cX12_snap 6 = .ok (.if_icmp .ne 43, 3) := by decide +kernel
theorem dX12_snap_9 : decode cX12_snap 9 = .ok (.iconst 0, 1) := by decide +kernel
theorem dX12_snap_10 : decode cX12_snap 10 = .ok (.istore_n 1, 1) := by decide +kernel
theorem dX12_snap_11 : decode cX12_snap 11 = .ok (.iload_n 1, 1) := by decide +kernel
theorem dX12_snap_12 : decode cX12_snap 12 = .ok (.sipush 525, 3) := by decide +kernel
theorem dX12_snap_15 : decode cX12_snap 15 = .ok (.if_icmp .ge 24, 3) := by decide +kernel
theorem dX12_snap_18 : decode cX12_snap 18 = .ok (.aload_n 0, 1) := by decide +kernel
theorem dX12_snap_19 : decode cX12_snap 19 = .ok (.getfield 22, 3) := by decide +kernel
theorem dX12_snap_22 : decode cX12_snap 22 = .ok (.iload_n 1, 1) := by decide +kernel
theorem dX12_snap_23 : decode cX12_snap 23 = .ok (.aload_n 0, 1) := by decide +kernel
theorem dX12_snap_24 : decode cX12_snap 24 = .ok (.getfield 22, 3) := by decide +kernel
theorem dX12_snap_27 : decode cX12_snap 27 = .ok (.iload_n 1, 1) := by decide +kernel
theorem dX12_snap_28 : decode cX12_snap 28 = .ok (.bipush 75, 2) := by decide +kernel
theorem dX12_snap_30 : decode cX12_snap 30 = .ok (.iadd, 1) := by decide +kernel
theorem dX12_snap_31 : decode cX12_snap 31 = .ok (.iaload, 1) := by decide +kernel
theorem dX12_snap_32 : decode cX12_snap 32 = .ok (.iastore, 1) := by decide +kernel
theorem dX12_snap_33 : decode cX12_snap 33 = .ok (.iinc 1 1, 3) := by decide +kernel
theorem dX12_snap_36 : decode cX12_snap 36 = .ok (.goto (-25), 3) := by decide +kernel
theorem dX12_snap_39 : decode cX12_snap 39 = .ok (.aload_n 0, 1) := by decide +kernel
theorem dX12_snap_40 : decode cX12_snap 40 = .ok (.dup, 1) := by decide +kernel
theorem dX12_snap_41 : decode cX12_snap 41 = .ok (.getfield 228, 3) := by decide +kernel
theorem dX12_snap_44 : decode cX12_snap 44 = .ok (.iconst 1, 1) := by decide +kernel
theorem dX12_snap_45 : decode cX12_snap 45 = .ok (.isub, 1) := by decide +kernel
theorem dX12_snap_46 : decode cX12_snap 46 = .ok (.putfield 228, 3) := by decide +kernel
theorem dX12_snap_49 : decode cX12_snap 49 = .ok (.iconst 0, 1) := by decide +kernel
theorem dX12_snap_50 : decode cX12_snap 50 = .ok (.istore_n 1, 1) := by decide +kernel
theorem dX12_snap_51 : decode cX12_snap 51 = .ok (.iload_n 1, 1) := by decide +kernel
theorem dX12_snap_52 : decode cX12_snap 52 = .ok (.bipush 75, 2) := by decide +kernel
theorem dX12_snap_54 : decode cX12_snap 54 = .ok (.if_icmp .ge 32, 3) := by decide +kernel
theorem dX12_snap_57 : decode cX12_snap 57 = .ok (.aload_n 0, 1) := by decide +kernel
theorem dX12_snap_58 : decode cX12_snap 58 = .ok (.getfield 22, 3) := by decide +kernel
theorem dX12_snap_61 : decode cX12_snap 61 = .ok (.bipush 75, 2) := by decide +kernel
theorem dX12_snap_63 : decode cX12_snap 63 = .ok (.aload_n 0, 1) := by decide +kernel
theorem dX12_snap_64 : decode cX12_snap 64 = .ok (.getfield 228, 3) := by decide +kernel
theorem dX12_snap_67 : decode cX12_snap 67 = .ok (.imul, 1) := by decide +kernel
theorem dX12_snap_68 : decode cX12_snap 68 = .ok (.iload_n 1, 1) := by decide +kernel
theorem dX12_snap_69 : decode cX12_snap 69 = .ok (.iadd, 1) := by decide +kernel
theorem dX12_snap_70 : decode cX12_snap 70 = .ok (.aload_n 0, 1) := by decide +kernel
theorem dX12_snap_71 : decode cX12_snap 71 = .ok (.getfield 13, 3) := by decide +kernel
theorem dX12_snap_74 : decode cX12_snap 74 = .ok (.bipush 72, 2) := by decide +kernel
theorem dX12_snap_76 : decode cX12_snap 76 = .ok (.iload_n 1, 1) := by decide +kernel
theorem dX12_snap_77 : decode cX12_snap 77 = .ok (.iadd, 1) := by decide +kernel
theorem dX12_snap_78 : decode cX12_snap 78 = .ok (.iaload, 1) := by decide +kernel
theorem dX12_snap_79 : decode cX12_snap 79 = .ok (.iastore, 1) := by decide +kernel
theorem dX12_snap_80 : decode cX12_snap 80 = .ok (.iinc 1 1, 3) := by decide +kernel
theorem dX12_snap_83 : decode cX12_snap 83 = .ok (.goto (-32), 3) := by decide +kernel
theorem dX12_snap_86 : decode cX12_snap 86 = .ok (.aload_n 0, 1) := by decide +kernel
theorem dX12_snap_87 : decode cX12_snap 87 = .ok (.dup, 1) := by decide +kernel
theorem dX12_snap_88 : decode cX12_snap 88 = .ok (.getfield 228, 3) := by decide +kernel
theorem dX12_snap_91 : decode cX12_snap 91 = .ok (.iconst 1, 1) := by decide +kernel
theorem dX12_snap_92 : decode cX12_snap 92 = .ok (.iadd, 1) := by decide +kernel
theorem dX12_snap_93 : decode cX12_snap 93 = .ok (.putfield 228, 3) := by decide +kernel
theorem dX12_snap_96 : decode cX12_snap 96 = .ok (.return_, 1) := by decide +kernel
theorem dX12_takeBack_0 : decode cX12_takeBack 0 = .ok (.iconst 0, 1) := by decide +kernel
theorem dX12_takeBack_1 : decode cX12_takeBack 1 = .ok (.istore_n 1, 1) := by decide +kernel
theorem dX12_takeBack_2 : decode cX12_takeBack 2 = .ok (.iload_n 1, 1) := by decide +kernel
theorem dX12_takeBack_3 : decode cX12_takeBack 3 = .ok (.bipush 75, 2) := by decide +kernel
theorem dX12_takeBack_5 : decode cX12_takeBack 5 = .ok (.if_icmp .ge 24, 3) := by decide +kernel
theorem dX12_takeBack_8 : decode cX12_takeBack 8 = .ok (.aload_n 0, 1) := by decide +kernel
theorem dX12_takeBack_9 : decode cX12_takeBack 9 = .ok (.getfield 13, 3) := by decide +kernel
theorem dX12_takeBack_12 : decode cX12_takeBack 12 = .ok (.bipush 72, 2) := by decide +kernel
theorem dX12_takeBack_14 : decode cX12_takeBack 14 = .ok (.iload_n 1, 1) := by decide +kernel
theorem dX12_takeBack_15 : decode cX12_takeBack 15 = .ok (.iadd, 1) := by decide +kernel
theorem dX12_takeBack_16 : decode cX12_takeBack 16 = .ok (.aload_n 0, 1) := by decide +kernel
theorem dX12_takeBack_17 : decode cX12_takeBack 17 = .ok (.getfield 25, 3) := by decide +kernel
theorem dX12_takeBack_20 : decode cX12_takeBack 20 = .ok (.iload_n 1, 1) := by decide +kernel
theorem dX12_takeBack_21 : decode cX12_takeBack 21 = .ok (.iaload, 1) := by decide +kernel
theorem dX12_takeBack_22 : decode cX12_takeBack 22 = .ok (.iastore, 1) := by decide +kernel
theorem dX12_takeBack_23 : decode cX12_takeBack 23 = .ok (.iinc 1 1, 3) := by decide +kernel
theorem dX12_takeBack_26 : decode cX12_takeBack 26 = .ok (.goto (-24), 3) := by decide +kernel
theorem dX12_takeBack_29 : decode cX12_takeBack 29 = .ok (.return_, 1) := by decide +kernel
theorem dX12_undo_0 : decode cX12_undo 0 = .ok (.aload_n 0, 1) := by decide +kernel
theorem dX12_undo_1 : decode cX12_undo 1 = .ok (.iconst 0, 1) := by decide +kernel
theorem dX12_undo_2 : decode cX12_undo 2 = .ok (.putfield 82, 3) := by decide +kernel
theorem dX12_undo_5 : decode cX12_undo 5 = .ok (.aload_n 0, 1) := by decide +kernel
theorem dX12_undo_6 : decode cX12_undo 6 = .ok (.getfield 228, 3) := by decide +kernel
theorem dX12_undo_9 : decode cX12_undo 9 = .ok (.ifCond .ne 5, 3) := by decide +kernel
theorem dX12_undo_12 : decode cX12_undo 12 = .ok (.iconst (-1), 1) := by decide +kernel
theorem dX12_undo_13 : decode cX12_undo 13 = .ok (.ireturn, 1) := by decide +kernel
theorem dX12_undo_14 : decode cX12_undo 14 = .ok (.aload_n 0, 1) := by decide +kernel
theorem dX12_undo_15 : decode cX12_undo 15 = .ok (.dup, 1) := by decide +kernel
theorem dX12_undo_16 : decode cX12_undo 16 = .ok (.getfield 228, 3) := by decide +kernel
theorem dX12_undo_19 : decode cX12_undo 19 = .ok (.iconst 1, 1) := by decide +kernel
theorem dX12_undo_20 : decode cX12_undo 20 = .ok (.isub, 1) := by decide +kernel
theorem dX12_undo_21 : decode cX12_undo 21 = .ok (.putfield 228, 3) := by decide +kernel
theorem dX12_undo_24 : decode cX12_undo 24 = .ok (.iconst 0, 1) := by decide +kernel
theorem dX12_undo_25 : decode cX12_undo 25 = .ok (.istore_n 1, 1) := by decide +kernel
theorem dX12_undo_26 : decode cX12_undo 26 = .ok (.iload_n 1, 1) := by decide +kernel
theorem dX12_undo_27 : decode cX12_undo 27 = .ok (.bipush 75, 2) := by decide +kernel
theorem dX12_undo_29 : decode cX12_undo 29 = .ok (.if_icmp .ge 32, 3) := by decide +kernel
theorem dX12_undo_32 : decode cX12_undo 32 = .ok (.aload_n 0, 1) := by decide +kernel
theorem dX12_undo_33 : decode cX12_undo 33 = .ok (.getfield 13, 3) := by decide +kernel
theorem dX12_undo_36 : decode cX12_undo 36 = .ok (.bipush 72, 2) := by decide +kernel
theorem dX12_undo_38 : decode cX12_undo 38 = .ok (.iload_n 1, 1) := by decide +kernel
theorem dX12_undo_39 : decode cX12_undo 39 = .ok (.iadd, 1) := by decide +kernel
theorem dX12_undo_40 : decode cX12_undo 40 = .ok (.aload_n 0, 1) := by decide +kernel
theorem dX12_undo_41 : decode cX12_undo 41 = .ok (.getfield 22, 3) := by decide +kernel
theorem dX12_undo_44 : decode cX12_undo 44 = .ok (.bipush 75, 2) := by decide +kernel
theorem dX12_undo_46 : decode cX12_undo 46 = .ok (.aload_n 0, 1) := by decide +kernel
theorem dX12_undo_47 : decode cX12_undo 47 = .ok (.getfield 228, 3) := by decide +kernel
theorem dX12_undo_50 : decode cX12_undo 50 = .ok (.imul, 1) := by decide +kernel
theorem dX12_undo_51 : decode cX12_undo 51 = .ok (.iload_n 1, 1) := by decide +kernel
theorem dX12_undo_52 : decode cX12_undo 52 = .ok (.iadd, 1) := by decide +kernel
theorem dX12_undo_53 : decode cX12_undo 53 = .ok (.iaload, 1) := by decide +kernel
theorem dX12_undo_54 : decode cX12_undo 54 = .ok (.iastore, 1) := by decide +kernel
theorem dX12_undo_55 : decode cX12_undo 55 = .ok (.iinc 1 1, 3) := by decide +kernel
theorem dX12_undo_58 : decode cX12_undo 58 = .ok (.goto (-32), 3) := by decide +kernel
theorem dX12_undo_61 : decode cX12_undo 61 = .ok (.aload_n 0, 1) := by decide +kernel
theorem dX12_undo_62 : decode cX12_undo 62 = .ok (.getfield 228, 3) := by decide +kernel
theorem dX12_undo_65 : decode cX12_undo 65 = .ok (.ireturn, 1) := by decide +kernel
theorem dX12_wantsYet_0 : decode cX12_wantsYet 0 = .ok (.aload_n 0, 1) := by decide +kernel
theorem dX12_wantsYet_1 : decode cX12_wantsYet 1 = .ok (.getfield 13, 3) := by decide +kernel
theorem dX12_wantsYet_4 : decode cX12_wantsYet 4 = .ok (.iconst 4, 1) := by decide +kernel
theorem dX12_wantsYet_5 : decode cX12_wantsYet 5 = .ok (.iload_n 1, 1) := by decide +kernel
theorem dX12_wantsYet_6 : decode cX12_wantsYet 6 = .ok (.iadd, 1) := by decide +kernel
theorem dX12_wantsYet_7 : decode cX12_wantsYet 7 = .ok (.iaload, 1) := by decide +kernel
theorem dX12_wantsYet_8 : decode cX12_wantsYet 8 = .ok (.aload_n 0, 1) := by decide +kernel
theorem dX12_wantsYet_9 : decode cX12_wantsYet 9 = .ok (.getfield 13, 3) := by decide +kernel
theorem dX12_wantsYet_12 : decode cX12_wantsYet 12 = .ok (.bipush 91, 2) := by decide +kernel
theorem dX12_wantsYet_14 : decode cX12_wantsYet 14 = .ok (.iload_n 1, 1) := by decide +kernel
theorem dX12_wantsYet_15 : decode cX12_wantsYet 15 = .ok (.iadd, 1) := by decide +kernel
theorem dX12_wantsYet_16 : decode cX12_wantsYet 16 = .ok (.iaload, 1) := by decide +kernel
theorem dX12_wantsYet_17 : decode cX12_wantsYet 17 = .ok (.isub, 1) := by decide +kernel
theorem dX12_wantsYet_18 : decode cX12_wantsYet 18 = .ok (.ireturn, 1) := by decide +kernel
theorem dX12_why_0 : decode cX12_why 0 = .ok (.aload_n 0, 1) := by decide +kernel
theorem dX12_why_1 : decode cX12_why 1 = .ok (.iload_n 2, 1) := by decide +kernel
theorem dX12_why_2 : decode cX12_why 2 = .ok (.invokevirtual 244, 3) := by decide +kernel
theorem dX12_why_5 : decode cX12_why 5 = .ok (.ifCond .eq 5, 3) := by decide +kernel
theorem dX12_why_8 : decode cX12_why 8 = .ok (.iconst 1, 1) := by decide +kernel
theorem dX12_why_9 : decode cX12_why 9 = .ok (.ireturn, 1) := by decide +kernel
theorem dX12_why_10 : decode cX12_why 10 = .ok (.iload_n 1, 1) := by decide +kernel
theorem dX12_why_11 : decode cX12_why 11 = .ok (.tableswitch 138 0 4 #[33, 64, 84, 98, 118], 33) := by decide +kernel
theorem dX12_why_44 : decode cX12_why 44 = .ok (.aload_n 0, 1) := by decide +kernel
theorem dX12_why_45 : decode cX12_why 45 = .ok (.iload_n 2, 1) := by decide +kernel
theorem dX12_why_46 : decode cX12_why 46 = .ok (.iload_n 3, 1) := by decide +kernel
theorem dX12_why_47 : decode cX12_why 47 = .ok (.invokevirtual 234, 3) := by decide +kernel
theorem dX12_why_50 : decode cX12_why 50 = .ok (.iload 4, 2) := by decide +kernel
theorem dX12_why_52 : decode cX12_why 52 = .ok (.if_icmp .ge 7, 3) := by decide +kernel
theorem dX12_why_55 : decode cX12_why 55 = .ok (.iconst 2, 1) := by decide +kernel
theorem dX12_why_56 : decode cX12_why 56 = .ok (.goto 18, 3) := by decide +kernel
theorem dX12_why_59 : decode cX12_why 59 = .ok (.iload 4, 2) := by decide +kernel
theorem dX12_why_61 : decode cX12_why 61 = .ok (.aload_n 0, 1) := by decide +kernel
theorem dX12_why_62 : decode cX12_why 62 = .ok (.iload_n 2, 1) := by decide +kernel
theorem dX12_why_63 : decode cX12_why 63 = .ok (.invokevirtual 268, 3) := by decide +kernel
theorem dX12_why_66 : decode cX12_why 66 = .ok (.if_icmp .le 7, 3) := by decide +kernel
theorem dX12_why_69 : decode cX12_why 69 = .ok (.iconst 3, 1) := by decide +kernel
theorem dX12_why_70 : decode cX12_why 70 = .ok (.goto 4, 3) := by decide +kernel
theorem dX12_why_73 : decode cX12_why 73 = .ok (.iconst 0, 1) := by decide +kernel
theorem dX12_why_74 : decode cX12_why 74 = .ok (.ireturn, 1) := by decide +kernel
theorem dX12_why_75 : decode cX12_why 75 = .ok (.aload_n 0, 1) := by decide +kernel
theorem dX12_why_76 : decode cX12_why 76 = .ok (.getfield 13, 3) := by decide +kernel
theorem dX12_why_79 : decode cX12_why 79 = .ok (.bipush 78, 2) := by decide +kernel
theorem dX12_why_81 : decode cX12_why 81 = .ok (.iload_n 3, 1) := by decide +kernel
theorem dX12_why_82 : decode cX12_why 82 = .ok (.iadd, 1) := by decide +kernel
theorem dX12_why_83 : decode cX12_why 83 = .ok (.iaload, 1) := by decide +kernel
theorem dX12_why_84 : decode cX12_why 84 = .ok (.iload 4, 2) := by decide +kernel
theorem dX12_why_86 : decode cX12_why 86 = .ok (.if_icmp .ge 7, 3) := by decide +kernel
theorem dX12_why_89 : decode cX12_why 89 = .ok (.iconst 2, 1) := by decide +kernel
theorem dX12_why_90 : decode cX12_why 90 = .ok (.goto 4, 3) := by decide +kernel
theorem dX12_why_93 : decode cX12_why 93 = .ok (.iconst 0, 1) := by decide +kernel
theorem dX12_why_94 : decode cX12_why 94 = .ok (.ireturn, 1) := by decide +kernel
theorem dX12_why_95 : decode cX12_why 95 = .ok (.aload_n 0, 1) := by decide +kernel
theorem dX12_why_96 : decode cX12_why 96 = .ok (.iload_n 2, 1) := by decide +kernel
theorem dX12_why_97 : decode cX12_why 97 = .ok (.invokevirtual 247, 3) := by decide +kernel
theorem dX12_why_100 : decode cX12_why 100 = .ok (.ifCond .ne 7, 3) := by decide +kernel
theorem dX12_why_103 : decode cX12_why 103 = .ok (.iconst 2, 1) := by decide +kernel
theorem dX12_why_104 : decode cX12_why 104 = .ok (.goto 4, 3) := by decide +kernel
theorem dX12_why_107 : decode cX12_why 107 = .ok (.iconst 0, 1) := by decide +kernel
theorem dX12_why_108 : decode cX12_why 108 = .ok (.ireturn, 1) := by decide +kernel
theorem dX12_why_109 : decode cX12_why 109 = .ok (.aload_n 0, 1) := by decide +kernel
theorem dX12_why_110 : decode cX12_why 110 = .ok (.getfield 13, 3) := by decide +kernel
theorem dX12_why_113 : decode cX12_why 113 = .ok (.bipush 74, 2) := by decide +kernel
theorem dX12_why_115 : decode cX12_why 115 = .ok (.iaload, 1) := by decide +kernel
theorem dX12_why_116 : decode cX12_why 116 = .ok (.iload_n 2, 1) := by decide +kernel
theorem dX12_why_117 : decode cX12_why 117 = .ok (.invokestatic 231, 3) := by decide +kernel
theorem dX12_why_120 : decode cX12_why 120 = .ok (.ifCond .eq 7, 3) := by decide +kernel
theorem dX12_why_123 : decode cX12_why 123 = .ok (.iconst 2, 1) := by decide +kernel
theorem dX12_why_124 : decode cX12_why 124 = .ok (.goto 4, 3) := by decide +kernel
theorem dX12_why_127 : decode cX12_why 127 = .ok (.iconst 0, 1) := by decide +kernel
theorem dX12_why_128 : decode cX12_why 128 = .ok (.ireturn, 1) := by decide +kernel
theorem dX12_why_129 : decode cX12_why 129 = .ok (.aload_n 0, 1) := by decide +kernel
theorem dX12_why_130 : decode cX12_why 130 = .ok (.getfield 13, 3) := by decide +kernel
theorem dX12_why_133 : decode cX12_why 133 = .ok (.bipush 74, 2) := by decide +kernel
theorem dX12_why_135 : decode cX12_why 135 = .ok (.iaload, 1) := by decide +kernel
theorem dX12_why_136 : decode cX12_why 136 = .ok (.iload_n 2, 1) := by decide +kernel
theorem dX12_why_137 : decode cX12_why 137 = .ok (.invokestatic 231, 3) := by decide +kernel
theorem dX12_why_140 : decode cX12_why 140 = .ok (.ifCond .eq 7, 3) := by decide +kernel
theorem dX12_why_143 : decode cX12_why 143 = .ok (.iconst 0, 1) := by decide +kernel
theorem dX12_why_144 : decode cX12_why 144 = .ok (.goto 4, 3) := by decide +kernel
theorem dX12_why_147 : decode cX12_why 147 = .ok (.iconst 2, 1) := by decide +kernel
theorem dX12_why_148 : decode cX12_why 148 = .ok (.ireturn, 1) := by decide +kernel
theorem dX12_why_149 : decode cX12_why 149 = .ok (.iconst 0, 1) := by decide +kernel
theorem dX12_why_150 : decode cX12_why 150 = .ok (.ireturn, 1) := by decide +kernel
theorem rc_389 : Rg 389 389 389 := ⟨by decide, by decide⟩
theorem rc_525 : Rg 525 525 525 := ⟨by decide, by decide⟩
set_option maxRecDepth 100000 in
set_option maxHeartbeats 8000000 in
theorem c_X12_doEat {l : Launch} {D : va_G} {cy : Nat → ClassId} {L : List Nat} {κ ln : Nat → Nat} {R : Nat → Nat → Option Nat} {I : Nat → Nat → Int32} {J : Nat → Nat → Int64} {ow : Nat → Nat × Nat} (W9 : ∀ a ∈ L, Shp L κ ln R ow a) {x : Nat} (hLx : x ∈ L) (hkx : κ x = 12) (a0 : Int32) (a1 : Int32) (a2 : Int32) (ra0 : Rg 0 6 a0) (ra1 : Rg 0 5 a1) (ra2 : Rg 0 40 a2) (hU : Iw L κ R ow I) (he : ∀ a, R x 14 = some a → Ea_ (I a) a0.toNatClampNeg a1.toNatClampNeg a2) : CtV l yX12_doEat cX12_doEat 4 none { frames := 0, cells := 0, slots := 0, locals := 0 } D cy L κ ln R I J [.ref x, .int a0, .int a1, .int a2] (fun I2 J2 => Iw L κ R ow I2 ∧ Fq L κ ow [83400] I I2 ∧ Fq L κ ow [] J J2 ∧ (Hd_ R x I I2)) := by
  refine CtV.of (by decide +kernel) (Nat.le_of_ble_eq_true rfl) ?_
  intro p e s m below meth c B K
  have C := B.1
  have hF : Fq L κ ow [83400] I I := fq_rf
  have hG : Fq L κ ow [] J J := fq_rf
  obtain ⟨b_1, hb_1, hb_1L, hb_1k, hb_1n, hb_1o⟩ := shp_a (W9 x hLx) hkx 14 14 389 rfl (by decide)
  refine g_lo (is := [0, 1, 2, 3]) (lo2 := [(0, .ref x), (1, .int a0), (2, .int a1), (3, .int a2)]) rfl ?_
  refine g_aload_n C 0 dX12_doEat_0 rfl rfl ?_
  refine g_getR C K hLx hkx f_12_13 hb_1 dX12_doEat_1 ?_
  refine g_bipush C (v := 105) dX12_doEat_4 (by decide) ?_
  refine g_bipush C (v := 6) dX12_doEat_6 (by decide) ?_
  refine g_iload_n C 1 dX12_doEat_8 rfl rfl ?_
  obtain ⟨x_2, hx_2, rx_2, tx_2⟩ := ex_mulT 0 36 rc_6 ra0 (by decide) (by decide) (by decide) (by decide) (by decide)
  refine g_imul C (v := x_2) dX12_doEat_9 hx_2 ?_
  obtain ⟨x_3, hx_3, rx_3, tx_3⟩ := ex_add 105 141 rc_105 rx_2 (by decide) (by decide) (by decide) (by decide)
  refine g_iadd C (v := x_3) dX12_doEat_10 hx_3 ?_
  refine g_iload_n C 2 dX12_doEat_11 rfl rfl ?_
  obtain ⟨x_4, hx_4, rx_4, tx_4⟩ := ex_add 105 146 rx_3 ra1 (by decide) (by decide) (by decide) (by decide)
  refine g_iadd C (v := x_4) dX12_doEat_12 hx_4 ?_
  refine g_dup2 C dX12_doEat_13 rfl rfl ?_
  obtain ⟨x_5, hx_5, rx_5⟩ := ex_getw (I := I) (a := b_1) (j := x_4.toNatClampNeg) (lo := 0) (hi := 379) hU.1 hb_1L (ro_a hb_1k (by decide) hb_1o hkx rfl) (bn_834.trans (zq_105 (ix_k (lo := 105) (hi := 146) rx_4 (by decide) (by decide) (by decide))))
  refine h_iald C K hb_1L hb_1k (v := x_5) (x_4.toNatClampNeg) (rfl) (ix_0 rx_4 (by decide)) (ix_lt rx_4 (by decide) hb_1n (by decide)) hx_5 dX12_doEat_14 ?_
  refine g_iload_n C 3 dX12_doEat_15 rfl rfl ?_
  obtain ⟨x_6, hx_6, rx_6, tx_6⟩ := ex_suble 379 rx_5 ra2 ((ea_le (he _ hb_1) (show x_4.toNatClampNeg = 105 + 6 * a0.toNatClampNeg + a1.toNatClampNeg from by rw [nx_a tx_4 rx_3 ra1 (by decide), nx_a tx_3 rc_105 rx_2 (by decide), nx_m (k := 6) tx_2 ra0 (by decide)]; rfl) hx_5)) (by decide) (by decide)
  refine g_isub C (v := x_6) dX12_doEat_16 hx_6 ?_
  refine h_iast C K hb_1L hb_1k (x_4.toNatClampNeg) (rfl) (ix_0 rx_4 (by decide)) (ix_lt rx_4 (by decide) hb_1n (by decide)) dX12_doEat_17 (fun I_7 hI_7 => ?_)
  have hU_8 := iw_less W9 hU (uw_put hU.1 hI_7 (ro_a hb_1k (by decide) hb_1o hkx rfl) (lo := 0) (hi := 379) (bn_834.trans (zq_105 (ix_k (lo := 105) (hi := 146) rx_4 (by decide) (by decide) (by decide)))) (rx_6)) hLx hkx hb_1 hI_7 (ix_lt (n := 6) (N := 6) ra1 (by decide) rfl (by decide)) (Or.inr ⟨a0.toNatClampNeg, (ix_lt (n := 7) (N := 7) ra0 (by decide) rfl (by decide)), rfl⟩ : cl_ a1.toNatClampNeg (33 + 6 * a0.toNatClampNeg + a1.toNatClampNeg)) (show x_4.toNatClampNeg = 72 + (33 + 6 * a0.toNatClampNeg + a1.toNatClampNeg) from by rw [nx_a tx_4 rx_3 ra1 (by decide), nx_a tx_3 rc_105 rx_2 (by decide), nx_m (k := 6) tx_2 ra0 (by decide)]; show 105 + 6 * _ + _ = _; omega) (by rw [hx_5, tx_6]; have := (ra2).1; omega)
  have hF_9 := fq_puta hF hI_7 (ro_a hb_1k (by decide) hb_1o hkx rfl) (by decide) (by decide)
  refine g_aload_n C 0 dX12_doEat_18 rfl rfl ?_
  refine g_getR C K hLx hkx f_12_13 hb_1 dX12_doEat_19 ?_
  refine g_bipush C (v := 84) dX12_doEat_22 (by decide) ?_
  refine g_iload_n C 1 dX12_doEat_24 rfl rfl ?_
  obtain ⟨x_10, hx_10, rx_10, tx_10⟩ := ex_add 84 90 rc_84 ra0 (by decide) (by decide) (by decide) (by decide)
  refine g_iadd C (v := x_10) dX12_doEat_25 hx_10 ?_
  refine g_dup2 C dX12_doEat_26 rfl rfl ?_
  obtain ⟨x_11, hx_11, rx_11⟩ := ex_any (z0 := I_7 b_1 (x_10.toNatClampNeg))
  refine h_iald C K hb_1L hb_1k (v := x_11) (x_10.toNatClampNeg) (rfl) (ix_0 rx_10 (by decide)) (ix_lt rx_10 (by decide) hb_1n (by decide)) hx_11 dX12_doEat_27 ?_
  refine g_iload_n C 3 dX12_doEat_28 rfl rfl ?_
  obtain ⟨x_12, hx_12, rx_12⟩ := ex_any (z0 := x_11 + a2)
  refine g_iadd C (v := x_12) dX12_doEat_29 hx_12 ?_
  refine h_iast C K hb_1L hb_1k (x_10.toNatClampNeg) (rfl) (ix_0 rx_10 (by decide)) (ix_lt rx_10 (by decide) hb_1n (by decide)) dX12_doEat_30 (fun I_13 hI_13 => ?_)
  have hU_14 := iw_free W9 hU_8 (uw_put hU_8.1 hI_13 (ro_a hb_1k (by decide) hb_1o hkx rfl) (lo := (-2147483648)) (hi := 2147483647) (bn_834.trans (zq_84 (ix_k (lo := 84) (hi := 90) rx_10 (by decide) (by decide) (by decide)))) (rx_12)) hLx hkx hb_1 hI_13 (by have := ix_k (lo := 84) (hi := 90) rx_10 (by decide) (by decide) (by decide); omega)
  have hF_15 := fq_puta hF_9 hI_13 (ro_a hb_1k (by decide) hb_1o hkx rfl) (by decide) (by decide)
  refine g_aload_n C 0 dX12_doEat_31 rfl rfl ?_
  refine g_getR C K hLx hkx f_12_13 hb_1 dX12_doEat_32 ?_
  refine g_bipush C (v := 91) dX12_doEat_35 (by decide) ?_
  refine g_iload_n C 1 dX12_doEat_37 rfl rfl ?_
  obtain ⟨x_16, hx_16, rx_16, tx_16⟩ := ex_add 91 97 rc_91 ra0 (by decide) (by decide) (by decide) (by decide)
  refine g_iadd C (v := x_16) dX12_doEat_38 hx_16 ?_
  refine g_dup2 C dX12_doEat_39 rfl rfl ?_
  obtain ⟨x_17, hx_17, rx_17⟩ := ex_getw (I := I_13) (a := b_1) (j := x_16.toNatClampNeg) (lo := 0) (hi := 20) hU_14.1 hb_1L (ro_a hb_1k (by decide) hb_1o hkx rfl) (bn_834.trans (zq_91 (ix_k (lo := 91) (hi := 97) rx_16 (by decide) (by decide) (by decide))))
  refine h_iald C K hb_1L hb_1k (v := x_17) (x_16.toNatClampNeg) (rfl) (ix_0 rx_16 (by decide)) (ix_lt rx_16 (by decide) hb_1n (by decide)) hx_17 dX12_doEat_40 ?_
  refine g_iload_n C 3 dX12_doEat_41 rfl rfl ?_
  obtain ⟨x_18, hx_18, rx_18, tx_18⟩ := ex_add 0 60 rx_17 ra2 (by decide) (by decide) (by decide) (by decide)
  refine g_iadd C (v := x_18) dX12_doEat_42 hx_18 ?_
  have q_19 := ju_rg (he _ hb_1) hI_7 (show x_4.toNatClampNeg = 105 + 6 * a0.toNatClampNeg + a1.toNatClampNeg from by rw [nx_a tx_4 rx_3 ra1 (by decide), nx_a tx_3 rc_105 rx_2 (by decide), nx_m (k := 6) tx_2 ra0 (by decide)]; rfl) hI_13 (show x_10.toNatClampNeg = 84 + a0.toNatClampNeg from by rw [nx_a tx_10 rc_84 ra0 (by decide)]; rfl) (ix_lt (n := 7) (N := 7) ra0 (by decide) rfl (by decide)) hx_17 (show x_16.toNatClampNeg = 91 + a0.toNatClampNeg from by rw [nx_a tx_16 rc_91 ra0 (by decide)]; rfl) tx_18 (rx_18) hU_14.1 hb_1L (ro_a hb_1k (by decide) hb_1o hkx rfl)
  refine h_iast C K hb_1L hb_1k (x_16.toNatClampNeg) (rfl) (ix_0 rx_16 (by decide)) (ix_lt rx_16 (by decide) hb_1n (by decide)) dX12_doEat_43 (fun I_20 hI_20 => ?_)
  have hU_21 := iw_just W9 hU_14 (uw_put hU_14.1 hI_20 (ro_a hb_1k (by decide) hb_1o hkx rfl) (lo := 0) (hi := 20) (bn_834.trans (zq_91 (ix_k (lo := 91) (hi := 97) rx_16 (by decide) (by decide) (by decide)))) (q_19.1)) hLx hkx hb_1 hI_20 (ix_lt (n := 7) (N := 7) ra0 (by decide) rfl (by decide)) (show x_16.toNatClampNeg = 91 + a0.toNatClampNeg from by rw [nx_a tx_16 rc_91 ra0 (by decide)]; rfl) q_19.2
  have hF_22 := fq_puta hF_15 hI_20 (ro_a hb_1k (by decide) hb_1o hkx rfl) (by decide) (by decide)
  exact g_vret B K rfl ⟨hU_21, hF_22, hG, (hd_u (r := 0) W9 hLx hkx (hd_u (r := 0) W9 hLx hkx (hd_u (r := 0) W9 hLx hkx hd_rf hI_7 (Or.inr (Or.inr (ix_ge rx_4 (by decide))))) hI_13 (Or.inr (Or.inr (ix_ge rx_10 (by decide))))) hI_20 (Or.inr (Or.inr (ix_ge rx_16 (by decide)))))⟩ dX12_doEat_44
set_option maxRecDepth 100000 in
set_option maxHeartbeats 8000000 in
theorem c_X12_least {l : Launch} {D : va_G} {cy : Nat → ClassId} {L : List Nat} {κ ln : Nat → Nat} {R : Nat → Nat → Option Nat} {I : Nat → Nat → Int32} {J : Nat → Nat → Int64} {ow : Nat → Nat × Nat} (W9 : ∀ a ∈ L, Shp L κ ln R ow a) (a0 : Int32) (a1 : Int32) (hU : Iw L κ R ow I) : CtI l yX12_least cX12_least 2 (some .int) { frames := 0, cells := 0, slots := 0, locals := 0 } D cy L κ ln R I J [.int a0, .int a1] (fun r I2 J2 => I = I2 ∧ J = J2 ∧ Rg (-2147483648) 2147483647 r ∧ (r ≤ a0 ∧ r ≤ a1 ∧ (r = a0 ∨ r = a1))) := by
  refine CtI.of (by decide +kernel) (Nat.le_of_ble_eq_true rfl) ?_
  intro p e s m below meth c B K
  have C := B.1
  refine g_lo (is := [0, 1]) (lo2 := [(0, .int a0), (1, .int a1)]) rfl ?_
  refine g_iload_n C 0 dX12_least_0 rfl rfl ?_
  refine g_iload_n C 1 dX12_least_1 rfl rfl ?_
  refine g_icmp_ge C (tgt := 9) dX12_least_2 (by decide) (fun h_1 => ?_) (fun h_1 => ?_)
  · skip
    refine g_iload_n C 1 dX12_least_9 rfl rfl ?_
    exact g_zret (ty := .int) (r := a1) B K rfl (rfl) ⟨rfl, rfl, (rg_all a1), ⟨h_1, Int32.le_refl _, Or.inr rfl⟩⟩ dX12_least_10
  · skip
    have r_2 := lt_l (hi := 2147483646) (nle h_1) (rg_all a0) (rg_all a1) (by decide)
    have r_3 := lt_r (lo := (-2147483647)) (nle h_1) (rg_all a0) (rg_all a1) (by decide)
    refine g_iload_n C 0 dX12_least_5 rfl rfl ?_
    refine g_goto C (tgt := 10) dX12_least_6 (by decide) ?_
    exact g_zret (ty := .int) (r := a0) B K rfl (rfl) ⟨rfl, rfl, rg_all _, ⟨Int32.le_refl _, Int32.le_of_lt (nle h_1), Or.inl rfl⟩⟩ dX12_least_10
set_option maxRecDepth 100000 in
set_option maxHeartbeats 8000000 in
theorem c_X12_wantsYet {l : Launch} {D : va_G} {cy : Nat → ClassId} {L : List Nat} {κ ln : Nat → Nat} {R : Nat → Nat → Option Nat} {I : Nat → Nat → Int32} {J : Nat → Nat → Int64} {ow : Nat → Nat × Nat} (W9 : ∀ a ∈ L, Shp L κ ln R ow a) {x : Nat} (hLx : x ∈ L) (hkx : κ x = 12) (a0 : Int32) (ra0 : Rg 0 6 a0) (hU : Iw L κ R ow I) : CtI l yX12_wantsYet cX12_wantsYet 2 (some .int) { frames := 0, cells := 0, slots := 0, locals := 0 } D cy L κ ln R I J [.ref x, .int a0] (fun r I2 J2 => I = I2 ∧ J = J2 ∧ Rg 0 20 r ∧ (∀ a, R x 14 = some a → r.toInt = (I a (4 + a0.toNatClampNeg)).toInt - (I a (91 + a0.toNatClampNeg)).toInt)) := by
  refine CtI.of (by decide +kernel) (Nat.le_of_ble_eq_true rfl) ?_
  intro p e s m below meth c B K
  have C := B.1
  obtain ⟨b_1, hb_1, hb_1L, hb_1k, hb_1n, hb_1o⟩ := shp_a (W9 x hLx) hkx 14 14 389 rfl (by decide)
  refine g_lo (is := [0, 1]) (lo2 := [(0, .ref x), (1, .int a0)]) rfl ?_
  refine g_aload_n C 0 dX12_wantsYet_0 rfl rfl ?_
  refine g_getR C K hLx hkx f_12_13 hb_1 dX12_wantsYet_1 ?_
  refine g_iconst C (v := 4) dX12_wantsYet_4 (by decide) ?_
  refine g_iload_n C 1 dX12_wantsYet_5 rfl rfl ?_
  obtain ⟨x_2, hx_2, rx_2, tx_2⟩ := ex_add 4 10 rc_4 ra0 (by decide) (by decide) (by decide) (by decide)
  refine g_iadd C (v := x_2) dX12_wantsYet_6 hx_2 ?_
  obtain ⟨x_3, hx_3, rx_3⟩ := ex_getw (I := I) (a := b_1) (j := x_2.toNatClampNeg) (lo := 0) (hi := 20) hU.1 hb_1L (ro_a hb_1k (by decide) hb_1o hkx rfl) (bn_834.trans (zq_4 (ix_k (lo := 4) (hi := 10) rx_2 (by decide) (by decide) (by decide))))
  refine h_iald C K hb_1L hb_1k (v := x_3) (x_2.toNatClampNeg) (rfl) (ix_0 rx_2 (by decide)) (ix_lt rx_2 (by decide) hb_1n (by decide)) hx_3 dX12_wantsYet_7 ?_
  refine g_aload_n C 0 dX12_wantsYet_8 rfl rfl ?_
  refine g_getR C K hLx hkx f_12_13 hb_1 dX12_wantsYet_9 ?_
  refine g_bipush C (v := 91) dX12_wantsYet_12 (by decide) ?_
  refine g_iload_n C 1 dX12_wantsYet_14 rfl rfl ?_
  obtain ⟨x_4, hx_4, rx_4, tx_4⟩ := ex_add 91 97 rc_91 ra0 (by decide) (by decide) (by decide) (by decide)
  refine g_iadd C (v := x_4) dX12_wantsYet_15 hx_4 ?_
  obtain ⟨x_5, hx_5, rx_5⟩ := ex_getw (I := I) (a := b_1) (j := x_4.toNatClampNeg) (lo := 0) (hi := 20) hU.1 hb_1L (ro_a hb_1k (by decide) hb_1o hkx rfl) (bn_834.trans (zq_91 (ix_k (lo := 91) (hi := 97) rx_4 (by decide) (by decide) (by decide))))
  refine h_iald C K hb_1L hb_1k (v := x_5) (x_4.toNatClampNeg) (rfl) (ix_0 rx_4 (by decide)) (ix_lt rx_4 (by decide) hb_1n (by decide)) hx_5 dX12_wantsYet_16 ?_
  obtain ⟨x_6, hx_6, rx_6, tx_6⟩ := ex_suble 20 rx_3 rx_5 ((Int32.le_iff_toInt_le.mpr (by rw [← hx_5, ← hx_3, (show x_4.toNatClampNeg = 91 + a0.toNatClampNeg from by rw [nx_a tx_4 rc_91 ra0 (by decide)]; rfl), (show x_2.toNatClampNeg = 4 + a0.toNatClampNeg from by rw [nx_a tx_2 rc_4 ra0 (by decide)]; rfl)]; exact gj_le W9 hU.2 hLx hkx hb_1 (ix_lt (n := 7) (N := 7) ra0 (by decide) rfl (by decide))))) (by decide) (by decide)
  refine g_isub C (v := x_6) dX12_wantsYet_17 hx_6 ?_
  exact g_zret (ty := .int) (r := x_6) B K rfl (rfl) ⟨rfl, rfl, rx_6, (fun a ha => by rw [hb_1] at ha; cases ha; rw [← (show x_4.toNatClampNeg = 91 + a0.toNatClampNeg from by rw [nx_a tx_4 rc_91 ra0 (by decide)]; rfl), ← (show x_2.toNatClampNeg = 4 + a0.toNatClampNeg from by rw [nx_a tx_2 rc_4 ra0 (by decide)]; rfl), hx_5, hx_3]; exact tx_6)⟩ dX12_wantsYet_18
set_option maxRecDepth 100000 in
set_option maxHeartbeats 8000000 in
theorem c_X12_eatsAll {l : Launch} {D : va_G} {cy : Nat → ClassId} {L : List Nat} {κ ln : Nat → Nat} {R : Nat → Nat → Option Nat} {I : Nat → Nat → Int32} {J : Nat → Nat → Int64} {ow : Nat → Nat × Nat} (W9 : ∀ a ∈ L, Shp L κ ln R ow a) {x : Nat} (hLx : x ∈ L) (hkx : κ x = 12) (a0 : Int32) (ra0 : Rg 0 6 a0) (hU : Iw L κ R ow I) : CtV l yX12_eatsAll cX12_eatsAll 3 none { frames := 1, cells := 0, slots := 0, locals := 23 } D cy L κ ln R I J [.ref x, .int a0] (fun I2 J2 => Iw L κ R ow I2 ∧ Fq L κ ow [83400] I I2 ∧ Fq L κ ow [] J J2 ∧ (Hd_ R x I I2)) := by
  refine CtV.of (by decide +kernel) (Nat.le_of_ble_eq_true rfl) ?_
  intro p e s m below meth c B K
  have C := B.1
  have hF : Fq L κ ow [83400] I I := fq_rf
  have hG : Fq L κ ow [] J J := fq_rf
  refine g_lo (is := [0, 1]) (lo2 := [(0, .ref x), (1, .int a0)]) rfl ?_
  have l_2 : ∀ (n_2 : Nat) (I_1 : Nat → Nat → Int32) (J_2 : Nat → Nat → Int64) (hU_3 : Iw L κ R ow I_1) (hF_4 : Fq L κ ow [83400] I I_1) (hG_5 : Fq L κ ow [] J J_2) (v_6 : Int32) (rv_6 : Rg 0 6 v_6) (v_7 : Int32) (rv_7 : Rg 0 6 v_7) (hd_8 : Hd_ R x I I_1) (hm_9 : 6 < (v_7 : Int32).toInt + (n_2 : Int)), WG p l e { frames := 1, cells := 0, slots := 0, locals := 23 } s m ([.ref x, .int a0] : List Value).toArray below meth c 3 0 0 (MQ below (Qv_ D cy L κ ln R (fun I2 J2 => Iw L κ R ow I2 ∧ Fq L κ ow [83400] I I2 ∧ Fq L κ ow [] J J2 ∧ (Hd_ R x I I2))) ([.ref x, .int a0] : List Value).toArray s 0 0 (Al_ L)) D cy (Al_ L) s.heap L κ ln R I_1 J_2 2 [(0, .ref x), (1, .int v_6), (2, .int v_7)] [] := by
    intro n_2
    induction n_2 with
    | zero =>
      intro I_1 J_2 hU_3 hF_4 hG_5 v_6 rv_6 v_7 rv_7 hd_8 hm_9
      exact ms_0 rv_7 hm_9
    | succ n_2 ih_2 =>
      intro I_1 J_2 hU_3 hF_4 hG_5 v_6 rv_6 v_7 rv_7 hd_8 hm_9
      refine g_iload_n C 2 dX12_eatsAll_2 rfl rfl ?_
      refine g_bipush C (v := 6) dX12_eatsAll_3 (by decide) ?_
      refine g_icmp_ge C (tgt := 34) dX12_eatsAll_5 (by decide) (fun h_10 => ?_) (fun h_10 => ?_)
      · skip
        have r_11 := le_r (h_10) rc_6 rv_7
        exact g_vret B K rfl ⟨hU_3, hF_4, hG_5, hd_8⟩ dX12_eatsAll_34
      · skip
        have r_12 := lt_l (hi := 5) (nle h_10) rv_7 rc_6 (by decide)
        refine g_aload_n C 0 dX12_eatsAll_8 rfl rfl ?_
        refine g_iload_n C 1 dX12_eatsAll_9 rfl rfl ?_
        refine g_iload_n C 2 dX12_eatsAll_10 rfl rfl ?_
        refine g_aload_n C 0 dX12_eatsAll_11 rfl rfl ?_
        refine g_iload_n C 1 dX12_eatsAll_12 rfl rfl ?_
        refine g_iload_n C 2 dX12_eatsAll_13 rfl rfl ?_
        refine g_callVI C K (c_X12_onPlate W9 hLx hkx v_6 v_7 (rv_6) (r_12) hU_3) hLx hkx (by decide) rfl v_12_234 rfl ⟨rfl, rfl⟩ ⟨Nat.le_of_ble_eq_true rfl, Nat.le_of_ble_eq_true rfl⟩ (Nat.le_of_ble_eq_true rfl) ⟨Nat.le_of_ble_eq_true rfl, Nat.le_of_ble_eq_true rfl⟩ dX12_eatsAll_14 rfl (st := [.int v_7, .int v_6, .ref x]) (fun x_13 I_14 J_15 h_16 => ?_)
        obtain ⟨rfl, rfl, rx_13, ex_13⟩ := h_16
        refine g_aload_n C 0 dX12_eatsAll_17 rfl rfl ?_
        refine g_iload_n C 1 dX12_eatsAll_18 rfl rfl ?_
        refine g_callVI C K (c_X12_wantsYet W9 hLx hkx v_6 (rv_6) hU_3) hLx hkx (by decide) rfl v_12_268 rfl ⟨rfl, rfl⟩ ⟨Nat.le_of_ble_eq_true rfl, Nat.le_of_ble_eq_true rfl⟩ (Nat.le_of_ble_eq_true rfl) ⟨Nat.le_of_ble_eq_true rfl, Nat.le_of_ble_eq_true rfl⟩ dX12_eatsAll_19 rfl (st := [.int x_13, .int v_7, .int v_6, .ref x]) (fun x_17 I_18 J_19 h_20 => ?_)
        obtain ⟨rfl, rfl, rx_17, ex_17⟩ := h_20
        refine g_callSI C K (c_X12_least W9 x_13 x_17  hU_3) s_12_265 rfl ⟨rfl, rfl⟩ ⟨Nat.le_of_ble_eq_true rfl, Nat.le_of_ble_eq_true rfl⟩ (Nat.le_of_ble_eq_true rfl) ⟨Nat.le_of_ble_eq_true rfl, Nat.le_of_ble_eq_true rfl⟩ dX12_eatsAll_22 rfl (st := [.int v_7, .int v_6, .ref x]) (fun x_21 I_22 J_23 h_24 => ?_)
        obtain ⟨rfl, rfl, rx_21, ex_21⟩ := h_24
        have r_25 := ls_rg ex_21 rx_13 rx_17 (lo := 0) (hi := 20) (by decide) (by decide)
        refine g_callVV C K (c_X12_doEat W9 hLx hkx v_6 v_7 x_21 (rv_6) (r_12) (rg_w r_25 (by decide) (by decide)) hU_3  (fun a ha => ea_mk (ex_13 a ha) (ex_17 a ha) ex_21.1 ex_21.2.1)) hLx hkx (by decide) rfl v_12_271 rfl ⟨rfl, rfl⟩ ⟨Nat.le_of_ble_eq_true rfl, Nat.le_of_ble_eq_true rfl⟩ (Nat.le_of_ble_eq_true rfl) ⟨Nat.le_of_ble_eq_true rfl, Nat.le_of_ble_eq_true rfl⟩ dX12_eatsAll_25 rfl (st := []) (fun I_27 J_28 h_29 => ?_)
        obtain ⟨hUI_27, hFI_27, hGJ_28, ex_26⟩ := h_29
        have hF_30 := fq_tr hF_4 hFI_27 (by decide)
        have hG_31 := fq_tr hG_5 hGJ_28 (by decide)
        obtain ⟨x_32, hx_32, rx_32, tx_32⟩ := ex_add (y := 1) 1 6 r_12 rc_1 (by decide) (by decide) (by decide) (by decide)
        refine g_iinc C dX12_eatsAll_28 (k := 2) (v := x_32) rfl hx_32 (by decide) (lo2 := [(2, .int x_32), (0, .ref x), (1, .int v_6)]) rfl ?_
        refine g_goto C (tgt := 2) dX12_eatsAll_31 (by decide) ?_
        refine g_lo (is := [1, 2, 0]) (lo2 := [(0, .ref x), (1, .int v_6), (2, .int x_32)]) rfl ?_
        exact ih_2 I_27 J_28 hUI_27 hF_30 hG_31 v_6 (rv_6) x_32 (rg_w rx_32 (by decide) (by decide)) (hd_t hd_8 ex_26) (ms_1 hm_9 (ti_k tx_32 rc_1) (by decide))
  refine g_iconst C (v := 0) dX12_eatsAll_0 (by decide) ?_
  refine g_istore_n C dX12_eatsAll_1 rfl (by decide) (lo2 := [(2, .int 0), (0, .ref x), (1, .int a0)]) rfl ?_
  refine g_lo (is := [1, 2, 0]) (lo2 := [(0, .ref x), (1, .int a0), (2, .int 0)]) rfl ?_
  exact l_2 7 I J hU hF hG a0 (ra0) 0 (rg_w rc_0 (by decide) (by decide)) hd_rf (ms_s (a := 0) (b := 6) (N := 7) (rg_w rc_0 (by decide) (by decide)) (by decide))
set_option maxRecDepth 100000 in
set_option maxHeartbeats 8000000 in
theorem c_X12_layAside {l : Launch} {D : va_G} {cy : Nat → ClassId} {L : List Nat} {κ ln : Nat → Nat} {R : Nat → Nat → Option Nat} {I : Nat → Nat → Int32} {J : Nat → Nat → Int64} {ow : Nat → Nat × Nat} (W9 : ∀ a ∈ L, Shp L κ ln R ow a) {x : Nat} (hLx : x ∈ L) (hkx : κ x = 12) (hU : Iw L κ R ow I) : CtV l yX12_layAside cX12_layAside 2 none { frames := 0, cells := 0, slots := 0, locals := 0 } D cy L κ ln R I J [.ref x] (fun I2 J2 => Iw L κ R ow I2 ∧ Fq L κ ow [83800] I I2 ∧ Fq L κ ow [] J J2 ∧ (Hd_ R x I I2) ∧ (Ga_ R x I2)) := by
  refine CtV.of (by decide +kernel) (Nat.le_of_ble_eq_true rfl) ?_
  intro p e s m below meth c B K
  have C := B.1
  have hF : Fq L κ ow [83800] I I := fq_rf
  have hG : Fq L κ ow [] J J := fq_rf
  obtain ⟨b_1, hb_1, hb_1L, hb_1k, hb_1n, hb_1o⟩ := shp_a (W9 x hLx) hkx 14 14 389 rfl (by decide)
  obtain ⟨b_2, hb_2, hb_2L, hb_2k, hb_2n, hb_2o⟩ := shp_a (W9 x hLx) hkx 18 14 75 rfl (by decide)
  refine g_lo (is := [0]) (lo2 := [(0, .ref x)]) rfl ?_
  refine g_iconst C (v := 0) dX12_layAside_0 (by decide) ?_
  refine g_istore_n C dX12_layAside_1 rfl (by decide) (lo2 := [(1, .int 0), (0, .ref x)]) rfl ?_
  refine g_lo (is := [1, 0]) (lo2 := [(0, .ref x), (1, .int 0)]) rfl ?_
  have ex_2 : ∀ (I_4 : Nat → Nat → Int32) (hI_4 : I_4 = cpn_ I b_1 b_2 (72) (0) 75) (v_3 : Int32) (rv_3 : Rg 75 75 v_3), WG p l e { frames := 0, cells := 0, slots := 0, locals := 0 } s m ([.ref x] : List Value).toArray below meth c 2 0 0 (MQ below (Qv_ D cy L κ ln R (fun I2 J2 => Iw L κ R ow I2 ∧ Fq L κ ow [83800] I I2 ∧ Fq L κ ow [] J J2 ∧ (Hd_ R x I I2) ∧ (Ga_ R x I2))) ([.ref x] : List Value).toArray s 0 0 (Al_ L)) D cy (Al_ L) s.heap L κ ln R I_4 J 29 [(0, .ref x), (1, .int v_3)] [] := by
    intro I_4 hI_4 v_3 rv_3
    have hF_5 := fq_cpn hF hI_4 (ro_a hb_2k (by decide) hb_2o hkx rfl) (by decide) (by decide)
    have hU_6 := uw_cpn hU.1 hb_1L hI_4 (ro_a hb_2k (by decide) hb_2o hkx rfl) (ro_a hb_1k (by decide) hb_1o hkx rfl) (fun i _ => by rw [bn_838, bn_834, Nat.zero_add]; exact ⟨Int.le_refl _, Int.le_refl _⟩)
    have hU_7 := iw_cpo W9 hU.2 hU_6 hI_4 (ro_a hb_2k (by decide) hb_2o hkx rfl) (fun _ => rfl)
    exact g_vret B K rfl ⟨hU_7, hF_5, hG, (hd_c (r := 838) W9 hLx hkx hd_rf hI_4 (Or.inl ⟨(ro_a hb_2k (by decide) hb_2o hkx rfl), by decide⟩)), (ga_lay W9 hU.2 hLx hkx hb_1 hb_2 hI_4)⟩ dX12_layAside_29
  have l_2 : ∀ (m_2 : Nat) (v_8 : Int32) (I_9 : Nat → Nat → Int32), v_8.toInt + (m_2 : Int) = 75 → 0 ≤ v_8.toInt → I_9 = cpn_ I b_1 b_2 (72) (0) v_8.toNatClampNeg → WG p l e { frames := 0, cells := 0, slots := 0, locals := 0 } s m ([.ref x] : List Value).toArray below meth c 2 0 0 (MQ below (Qv_ D cy L κ ln R (fun I2 J2 => Iw L κ R ow I2 ∧ Fq L κ ow [83800] I I2 ∧ Fq L κ ow [] J J2 ∧ (Hd_ R x I I2) ∧ (Ga_ R x I2))) ([.ref x] : List Value).toArray s 0 0 (Al_ L)) D cy (Al_ L) s.heap L κ ln R I_9 J 2 [(0, .ref x), (1, .int v_8)] [] := by
    intro m_2
    induction m_2 with
    | zero =>
      intro v_8 I_9 hk_2 h0_2 hI_9
      have rv_8 : Rg 75 75 v_8 := by unfold Rg; omega
      refine g_iload_n C 1 dX12_layAside_2 rfl rfl ?_
      refine g_bipush C (v := 75) dX12_layAside_3 (by decide) ?_
      refine g_icmp_ge C (tgt := 29) dX12_layAside_5 (by decide) (fun h_10 => ?_) (fun h_10 => ?_)
      · skip
        refine g_lo (is := [0, 1]) (lo2 := [(0, .ref x), (1, .int v_8)]) rfl ?_
        exact ex_2 I_9 (hI_9.trans (congrArg (fun q => cpn_ I b_1 b_2 (72) (0) q) (show v_8.toNatClampNeg = 75 from by have := ix_n rv_8 (by decide); have := rv_8.1; have := rv_8.2; omega))) v_8 rv_8
      · skip
        have r_11 := lt_l (hi := 74) (nle h_10) rv_8 rc_75 (by decide)
        exact rg_no r_11 (by decide)
    | succ m_2 ih_2 =>
      intro v_8 I_9 hk_2 h0_2 hI_9
      have rv_8 : Rg 0 74 v_8 := by unfold Rg; omega
      refine g_iload_n C 1 dX12_layAside_2 rfl rfl ?_
      refine g_bipush C (v := 75) dX12_layAside_3 (by decide) ?_
      refine g_icmp_ge C (tgt := 29) dX12_layAside_5 (by decide) (fun h_12 => ?_) (fun h_12 => ?_)
      · skip
        have r_13 := le_r (h_12) rc_75 rv_8
        exact rg_no r_13 (by decide)
      · skip
        refine g_aload_n C 0 dX12_layAside_8 rfl rfl ?_
        refine g_getR C K hLx hkx f_12_25 hb_2 dX12_layAside_9 ?_
        refine g_iload_n C 1 dX12_layAside_12 rfl rfl ?_
        refine g_aload_n C 0 dX12_layAside_13 rfl rfl ?_
        refine g_getR C K hLx hkx f_12_13 hb_1 dX12_layAside_14 ?_
        refine g_bipush C (v := 72) dX12_layAside_17 (by decide) ?_
        refine g_iload_n C 1 dX12_layAside_19 rfl rfl ?_
        obtain ⟨x_14, hx_14, rx_14, tx_14⟩ := ex_add 72 146 rc_72 rv_8 (by decide) (by decide) (by decide) (by decide)
        refine g_iadd C (v := x_14) dX12_layAside_20 hx_14 ?_
        obtain ⟨x_15, hx_15, rx_15⟩ := ex_any (z0 := I_9 b_1 (x_14.toNatClampNeg))
        refine h_iald C K hb_1L hb_1k (v := x_15) (x_14.toNatClampNeg) (rfl) (ix_0 rx_14 (by decide)) (ix_lt rx_14 (by decide) hb_1n (by decide)) hx_15 dX12_layAside_21 ?_
        refine h_iast C K hb_2L hb_2k (v_8.toNatClampNeg) (rfl) (ix_0 rv_8 (by decide)) (ix_lt rv_8 (by decide) hb_2n (by decide)) dX12_layAside_22 (fun I_16 hI_16 => ?_)
        obtain ⟨x_17, hx_17, rx_17, tx_17⟩ := ex_add (y := 1) 1 75 rv_8 rc_1 (by decide) (by decide) (by decide) (by decide)
        refine g_iinc C dX12_layAside_23 (k := 1) (v := x_17) rfl hx_17 (by decide) (lo2 := [(1, .int x_17), (0, .ref x)]) rfl ?_
        refine g_goto C (tgt := 2) dX12_layAside_26 (by decide) ?_
        refine g_lo (is := [1, 0]) (lo2 := [(0, .ref x), (1, .int x_17)]) rfl ?_
        have kk_2 : x_17.toNatClampNeg = v_8.toNatClampNeg + 1 := by have q1 := ix_n rv_8 (by decide); have q2 := (ti_k tx_17 rc_1); have q3 : x_17.toNatClampNeg = x_17.toInt.toNat := rfl; omega
        exact ih_2 x_17 I_16 (by have := (ti_k tx_17 rc_1); omega) (by have := (ti_k tx_17 rc_1); omega) (by rw [kk_2]; exact cpn_s hI_9 hx_15 hI_16 (show x_14.toNatClampNeg = (72) + v_8.toNatClampNeg from by rw [nx_a tx_14 rc_72 rv_8 (by decide)]; simp only [show (72 : Int32).toNatClampNeg = 72 from rfl] <;> omega) (show v_8.toNatClampNeg = (0) + v_8.toNatClampNeg from by omega) (Or.inl (ne_ro (ro_a hb_1k (by decide) hb_1o hkx rfl) (ro_a hb_2k (by decide) hb_2o hkx rfl) (by decide))))
  exact l_2 75 0 I (by decide) (by decide) cpn_0
set_option maxRecDepth 100000 in
set_option maxHeartbeats 8000000 in
theorem c_X12_takeBack {l : Launch} {D : va_G} {cy : Nat → ClassId} {L : List Nat} {κ ln : Nat → Nat} {R : Nat → Nat → Option Nat} {I : Nat → Nat → Int32} {J : Nat → Nat → Int64} {ow : Nat → Nat × Nat} (W9 : ∀ a ∈ L, Shp L κ ln R ow a) {x : Nat} (hLx : x ∈ L) (hkx : κ x = 12) (hU : Iw L κ R ow I) (hga : Ga_ R x I) : CtV l yX12_takeBack cX12_takeBack 2 none { frames := 0, cells := 0, slots := 0, locals := 0 } D cy L κ ln R I J [.ref x] (fun I2 J2 => Iw L κ R ow I2 ∧ Fq L κ ow [83400] I I2 ∧ Fq L κ ow [] J J2 ∧ (Hd_ R x I I2)) := by
  refine CtV.of (by decide +kernel) (Nat.le_of_ble_eq_true rfl) ?_
  intro p e s m below meth c B K
  have C := B.1
  have hF : Fq L κ ow [83400] I I := fq_rf
  have hG : Fq L κ ow [] J J := fq_rf
  obtain ⟨b_1, hb_1, hb_1L, hb_1k, hb_1n, hb_1o⟩ := shp_a (W9 x hLx) hkx 14 14 389 rfl (by decide)
  obtain ⟨b_2, hb_2, hb_2L, hb_2k, hb_2n, hb_2o⟩ := shp_a (W9 x hLx) hkx 18 14 75 rfl (by decide)
  refine g_lo (is := [0]) (lo2 := [(0, .ref x)]) rfl ?_
  refine g_iconst C (v := 0) dX12_takeBack_0 (by decide) ?_
  refine g_istore_n C dX12_takeBack_1 rfl (by decide) (lo2 := [(1, .int 0), (0, .ref x)]) rfl ?_
  refine g_lo (is := [1, 0]) (lo2 := [(0, .ref x), (1, .int 0)]) rfl ?_
  have ex_2 : ∀ (I_4 : Nat → Nat → Int32) (hI_4 : I_4 = cpn_ I b_2 b_1 (0) (72) 75) (v_3 : Int32) (rv_3 : Rg 75 75 v_3), WG p l e { frames := 0, cells := 0, slots := 0, locals := 0 } s m ([.ref x] : List Value).toArray below meth c 2 0 0 (MQ below (Qv_ D cy L κ ln R (fun I2 J2 => Iw L κ R ow I2 ∧ Fq L κ ow [83400] I I2 ∧ Fq L κ ow [] J J2 ∧ (Hd_ R x I I2))) ([.ref x] : List Value).toArray s 0 0 (Al_ L)) D cy (Al_ L) s.heap L κ ln R I_4 J 29 [(0, .ref x), (1, .int v_3)] [] := by
    intro I_4 hI_4 v_3 rv_3
    have hF_5 := fq_cpn hF hI_4 (ro_a hb_1k (by decide) hb_1o hkx rfl) (by decide) (by decide)
    have hU_6 := uw_cpn hU.1 hb_2L hI_4 (ro_a hb_1k (by decide) hb_1o hkx rfl) (ro_a hb_2k (by decide) hb_2o hkx rfl) (fun i _ => by rw [bn_834, bn_838, Nat.zero_add]; exact ⟨Int.le_refl _, Int.le_refl _⟩)
    have hU_7 := iw_set W9 hU.2 hU_6 hLx hkx hb_1 hI_4 (hga _ _ hb_1 hb_2)
    exact g_vret B K rfl ⟨hU_7, hF_5, hG, (hd_c (r := 0) W9 hLx hkx hd_rf hI_4 (Or.inr (by omega)))⟩ dX12_takeBack_29
  have l_2 : ∀ (m_2 : Nat) (v_8 : Int32) (I_9 : Nat → Nat → Int32), v_8.toInt + (m_2 : Int) = 75 → 0 ≤ v_8.toInt → I_9 = cpn_ I b_2 b_1 (0) (72) v_8.toNatClampNeg → WG p l e { frames := 0, cells := 0, slots := 0, locals := 0 } s m ([.ref x] : List Value).toArray below meth c 2 0 0 (MQ below (Qv_ D cy L κ ln R (fun I2 J2 => Iw L κ R ow I2 ∧ Fq L κ ow [83400] I I2 ∧ Fq L κ ow [] J J2 ∧ (Hd_ R x I I2))) ([.ref x] : List Value).toArray s 0 0 (Al_ L)) D cy (Al_ L) s.heap L κ ln R I_9 J 2 [(0, .ref x), (1, .int v_8)] [] := by
    intro m_2
    induction m_2 with
    | zero =>
      intro v_8 I_9 hk_2 h0_2 hI_9
      have rv_8 : Rg 75 75 v_8 := by unfold Rg; omega
      refine g_iload_n C 1 dX12_takeBack_2 rfl rfl ?_
      refine g_bipush C (v := 75) dX12_takeBack_3 (by decide) ?_
      refine g_icmp_ge C (tgt := 29) dX12_takeBack_5 (by decide) (fun h_10 => ?_) (fun h_10 => ?_)
      · skip
        refine g_lo (is := [0, 1]) (lo2 := [(0, .ref x), (1, .int v_8)]) rfl ?_
        exact ex_2 I_9 (hI_9.trans (congrArg (fun q => cpn_ I b_2 b_1 (0) (72) q) (show v_8.toNatClampNeg = 75 from by have := ix_n rv_8 (by decide); have := rv_8.1; have := rv_8.2; omega))) v_8 rv_8
      · skip
        have r_11 := lt_l (hi := 74) (nle h_10) rv_8 rc_75 (by decide)
        exact rg_no r_11 (by decide)
    | succ m_2 ih_2 =>
      intro v_8 I_9 hk_2 h0_2 hI_9
      have rv_8 : Rg 0 74 v_8 := by unfold Rg; omega
      refine g_iload_n C 1 dX12_takeBack_2 rfl rfl ?_
      refine g_bipush C (v := 75) dX12_takeBack_3 (by decide) ?_
      refine g_icmp_ge C (tgt := 29) dX12_takeBack_5 (by decide) (fun h_12 => ?_) (fun h_12 => ?_)
      · skip
        have r_13 := le_r (h_12) rc_75 rv_8
        exact rg_no r_13 (by decide)
      · skip
        refine g_aload_n C 0 dX12_takeBack_8 rfl rfl ?_
        refine g_getR C K hLx hkx f_12_13 hb_1 dX12_takeBack_9 ?_
        refine g_bipush C (v := 72) dX12_takeBack_12 (by decide) ?_
        refine g_iload_n C 1 dX12_takeBack_14 rfl rfl ?_
        obtain ⟨x_14, hx_14, rx_14, tx_14⟩ := ex_add 72 146 rc_72 rv_8 (by decide) (by decide) (by decide) (by decide)
        refine g_iadd C (v := x_14) dX12_takeBack_15 hx_14 ?_
        refine g_aload_n C 0 dX12_takeBack_16 rfl rfl ?_
        refine g_getR C K hLx hkx f_12_25 hb_2 dX12_takeBack_17 ?_
        refine g_iload_n C 1 dX12_takeBack_20 rfl rfl ?_
        obtain ⟨x_15, hx_15, rx_15⟩ := ex_any (z0 := I_9 b_2 (v_8.toNatClampNeg))
        refine h_iald C K hb_2L hb_2k (v := x_15) (v_8.toNatClampNeg) (rfl) (ix_0 rv_8 (by decide)) (ix_lt rv_8 (by decide) hb_2n (by decide)) hx_15 dX12_takeBack_21 ?_
        refine h_iast C K hb_1L hb_1k (x_14.toNatClampNeg) (rfl) (ix_0 rx_14 (by decide)) (ix_lt rx_14 (by decide) hb_1n (by decide)) dX12_takeBack_22 (fun I_16 hI_16 => ?_)
        obtain ⟨x_17, hx_17, rx_17, tx_17⟩ := ex_add (y := 1) 1 75 rv_8 rc_1 (by decide) (by decide) (by decide) (by decide)
        refine g_iinc C dX12_takeBack_23 (k := 1) (v := x_17) rfl hx_17 (by decide) (lo2 := [(1, .int x_17), (0, .ref x)]) rfl ?_
        refine g_goto C (tgt := 2) dX12_takeBack_26 (by decide) ?_
        refine g_lo (is := [1, 0]) (lo2 := [(0, .ref x), (1, .int x_17)]) rfl ?_
        have kk_2 : x_17.toNatClampNeg = v_8.toNatClampNeg + 1 := by have q1 := ix_n rv_8 (by decide); have q2 := (ti_k tx_17 rc_1); have q3 : x_17.toNatClampNeg = x_17.toInt.toNat := rfl; omega
        exact ih_2 x_17 I_16 (by have := (ti_k tx_17 rc_1); omega) (by have := (ti_k tx_17 rc_1); omega) (by rw [kk_2]; exact cpn_s hI_9 hx_15 hI_16 (show v_8.toNatClampNeg = (0) + v_8.toNatClampNeg from by omega) (show x_14.toNatClampNeg = (72) + v_8.toNatClampNeg from by rw [nx_a tx_14 rc_72 rv_8 (by decide)]; simp only [show (72 : Int32).toNatClampNeg = 72 from rfl] <;> omega) (Or.inl (ne_ro (ro_a hb_2k (by decide) hb_2o hkx rfl) (ro_a hb_1k (by decide) hb_1o hkx rfl) (by decide))))
  exact l_2 75 0 I (by decide) (by decide) cpn_0
set_option maxRecDepth 100000 in
set_option maxHeartbeats 8000000 in
theorem c_X12_undo {l : Launch} {D : va_G} {cy : Nat → ClassId} {L : List Nat} {κ ln : Nat → Nat} {R : Nat → Nat → Option Nat} {I : Nat → Nat → Int32} {J : Nat → Nat → Int64} {ow : Nat → Nat × Nat} (W9 : ∀ a ∈ L, Shp L κ ln R ow a) {x : Nat} (hLx : x ∈ L) (hkx : κ x = 12) (hU : Iw L κ R ow I) : CtI l yX12_undo cX12_undo 2 (some .int) { frames := 0, cells := 0, slots := 0, locals := 0 } D cy L κ ln R I J [.ref x] (fun r I2 J2 => Iw L κ R ow I2 ∧ Fq L κ ow [1200, 1223, 83400] I I2 ∧ Fq L κ ow [] J J2 ∧ Rg (-1) 7 r) := by
  refine CtI.of (by decide +kernel) (Nat.le_of_ble_eq_true rfl) ?_
  intro p e s m below meth c B K
  have C := B.1
  have hF : Fq L κ ow [1200, 1223, 83400] I I := fq_rf
  have hG : Fq L κ ow [] J J := fq_rf
  obtain ⟨b_1, hb_1, hb_1L, hb_1k, hb_1n, hb_1o⟩ := shp_a (W9 x hLx) hkx 14 14 389 rfl (by decide)
  obtain ⟨b_2, hb_2, hb_2L, hb_2k, hb_2n, hb_2o⟩ := shp_a (W9 x hLx) hkx 17 14 600 rfl (by decide)
  refine g_lo (is := [0]) (lo2 := [(0, .ref x)]) rfl ?_
  refine g_aload_n C 0 dX12_undo_0 rfl rfl ?_
  refine g_iconst C (v := 0) dX12_undo_1 (by decide) ?_
  refine h_putI C K hLx hkx f_12_82 p_12_0 dX12_undo_2 (fun I_3 hI_3 => ?_)
  have hU_4 := iw_put W9 hU hI_3 (ro_o hkx (by decide)) (lo := (-2147483648)) (hi := 2147483647) (rfl) (rg_all _) rfl
  have hF_5 := fq_puto hF hI_3 hkx (by decide) (by decide)
  refine g_aload_n C 0 dX12_undo_5 rfl rfl ?_
  obtain ⟨x_6, hx_6, rx_6⟩ := ex_getw (I := I_3) (a := x) (j := 23) (lo := 0) (hi := 8) hU_4.1 hLx (ro_o hkx (by decide)) rfl
  refine g_getI C K hLx hkx f_12_228 (v := x_6) hx_6 dX12_undo_6 ?_
  refine g_if_ne C (tgt := 14) dX12_undo_9 (by decide) (fun h_7 => ?_) (fun h_7 => ?_)
  · skip
    have n_8 : ¬ x_6 = 0 := h_7
    have r_9 := ne_lo (lo := 1) n_8 rx_6 rc_0 rfl (by decide)
    refine g_aload_n C 0 dX12_undo_14 rfl rfl ?_
    refine g_dup C dX12_undo_15 rfl ?_
    refine g_getI C K hLx hkx f_12_228 (v := x_6) hx_6 dX12_undo_16 ?_
    refine g_iconst C (v := 1) dX12_undo_19 (by decide) ?_
    obtain ⟨x_10, hx_10, rx_10, tx_10⟩ := ex_sub 0 7 r_9 rc_1 (by decide) (by decide) (by decide) (by decide)
    refine g_isub C (v := x_10) dX12_undo_20 hx_10 ?_
    refine h_putI C K hLx hkx f_12_228 p_12_23 dX12_undo_21 (fun I_11 hI_11 => ?_)
    have hU_12 := iw_dec W9 hU_4 (uw_put hU_4.1 hI_11 (ro_o hkx (by decide)) (lo := 0) (hi := 8) (rfl) (rg_w rx_10 (by decide) (by decide))) hLx hkx hI_11 (by rw [hx_6]; have := ((ti_s tx_10 rc_1 (by decide)) : x_10.toInt = _ + (-1)); omega)
    have hF_13 := fq_puto hF_5 hI_11 hkx (by decide) (by decide)
    refine g_iconst C (v := 0) dX12_undo_24 (by decide) ?_
    refine g_istore_n C dX12_undo_25 rfl (by decide) (lo2 := [(1, .int 0), (0, .ref x)]) rfl ?_
    refine g_lo (is := [1, 0]) (lo2 := [(0, .ref x), (1, .int 0)]) rfl ?_
    have ex_26 : ∀ (I_15 : Nat → Nat → Int32) (hI_15 : I_15 = cpn_ I_11 b_2 b_1 (75 * x_10.toNatClampNeg) (72) 75) (v_14 : Int32) (rv_14 : Rg 75 75 v_14), WG p l e { frames := 0, cells := 0, slots := 0, locals := 0 } s m ([.ref x] : List Value).toArray below meth c 2 0 0 (MQ below (Qi_ D cy L κ ln R (fun r I2 J2 => Iw L κ R ow I2 ∧ Fq L κ ow [1200, 1223, 83400] I I2 ∧ Fq L κ ow [] J J2 ∧ Rg (-1) 7 r)) ([.ref x] : List Value).toArray s 0 0 (Al_ L)) D cy (Al_ L) s.heap L κ ln R I_15 J 61 [(0, .ref x), (1, .int v_14)] [] := by
      intro I_15 hI_15 v_14 rv_14
      have hF_16 := fq_cpn hF_13 hI_15 (ro_a hb_1k (by decide) hb_1o hkx rfl) (by decide) (by decide)
      have hU_17 := uw_cpn hU_12.1 hb_2L hI_15 (ro_a hb_1k (by decide) hb_1o hkx rfl) (ro_a hb_2k (by decide) hb_2o hkx rfl) (fun i hi => by rw [bn_834, bn_837, show (75 * x_10.toNatClampNeg + i) % 75 = i by omega]; exact ⟨Int.le_refl _, Int.le_refl _⟩)
      have hU_18 := iw_set W9 hU_12.2 hU_17 hLx hkx hb_1 hI_15 (gm_sn W9 hU_4.2 hLx hkx hb_1 hb_2 hI_11 (by rw [hx_6]; have := ((ti_s tx_10 rc_1 (by decide)) : x_10.toInt = _ + (-1)); omega) (rx_10).1)
      refine g_aload_n C 0 dX12_undo_61 rfl rfl ?_
      refine g_getI C K hLx hkx f_12_228 (v := x_10) (kp_cn (κ := κ) hI_15 (by rw [hkx, hb_1k]; decide) (kp_s hI_11)) dX12_undo_62 ?_
      exact g_zret (ty := .int) (r := x_10) B K rfl (rfl) ⟨hU_18, hF_16, hG, rg_w rx_10 (by decide) (by decide)⟩ dX12_undo_65
    have l_26 : ∀ (m_26 : Nat) (v_19 : Int32) (I_20 : Nat → Nat → Int32), v_19.toInt + (m_26 : Int) = 75 → 0 ≤ v_19.toInt → I_20 = cpn_ I_11 b_2 b_1 (75 * x_10.toNatClampNeg) (72) v_19.toNatClampNeg → WG p l e { frames := 0, cells := 0, slots := 0, locals := 0 } s m ([.ref x] : List Value).toArray below meth c 2 0 0 (MQ below (Qi_ D cy L κ ln R (fun r I2 J2 => Iw L κ R ow I2 ∧ Fq L κ ow [1200, 1223, 83400] I I2 ∧ Fq L κ ow [] J J2 ∧ Rg (-1) 7 r)) ([.ref x] : List Value).toArray s 0 0 (Al_ L)) D cy (Al_ L) s.heap L κ ln R I_20 J 26 [(0, .ref x), (1, .int v_19)] [] := by
      intro m_26
      induction m_26 with
      | zero =>
        intro v_19 I_20 hk_26 h0_26 hI_20
        have rv_19 : Rg 75 75 v_19 := by unfold Rg; omega
        refine g_iload_n C 1 dX12_undo_26 rfl rfl ?_
        refine g_bipush C (v := 75) dX12_undo_27 (by decide) ?_
        refine g_icmp_ge C (tgt := 61) dX12_undo_29 (by decide) (fun h_21 => ?_) (fun h_21 => ?_)
        · skip
          refine g_lo (is := [0, 1]) (lo2 := [(0, .ref x), (1, .int v_19)]) rfl ?_
          exact ex_26 I_20 (hI_20.trans (congrArg (fun q => cpn_ I_11 b_2 b_1 (75 * x_10.toNatClampNeg) (72) q) (show v_19.toNatClampNeg = 75 from by have := ix_n rv_19 (by decide); have := rv_19.1; have := rv_19.2; omega))) v_19 rv_19
        · skip
          have r_22 := lt_l (hi := 74) (nle h_21) rv_19 rc_75 (by decide)
          exact rg_no r_22 (by decide)
      | succ m_26 ih_26 =>
        intro v_19 I_20 hk_26 h0_26 hI_20
        have rv_19 : Rg 0 74 v_19 := by unfold Rg; omega
        refine g_iload_n C 1 dX12_undo_26 rfl rfl ?_
        refine g_bipush C (v := 75) dX12_undo_27 (by decide) ?_
        refine g_icmp_ge C (tgt := 61) dX12_undo_29 (by decide) (fun h_23 => ?_) (fun h_23 => ?_)
        · skip
          have r_24 := le_r (h_23) rc_75 rv_19
          exact rg_no r_24 (by decide)
        · skip
          refine g_aload_n C 0 dX12_undo_32 rfl rfl ?_
          refine g_getR C K hLx hkx f_12_13 hb_1 dX12_undo_33 ?_
          refine g_bipush C (v := 72) dX12_undo_36 (by decide) ?_
          refine g_iload_n C 1 dX12_undo_38 rfl rfl ?_
          obtain ⟨x_25, hx_25, rx_25, tx_25⟩ := ex_add 72 146 rc_72 rv_19 (by decide) (by decide) (by decide) (by decide)
          refine g_iadd C (v := x_25) dX12_undo_39 hx_25 ?_
          refine g_aload_n C 0 dX12_undo_40 rfl rfl ?_
          refine g_getR C K hLx hkx f_12_22 hb_2 dX12_undo_41 ?_
          refine g_bipush C (v := 75) dX12_undo_44 (by decide) ?_
          refine g_aload_n C 0 dX12_undo_46 rfl rfl ?_
          refine g_getI C K hLx hkx f_12_228 (v := x_10) (kp_cn (κ := κ) hI_20 (by rw [hkx, hb_1k]; decide) (kp_s hI_11)) dX12_undo_47 ?_
          obtain ⟨x_26, hx_26, rx_26, tx_26⟩ := ex_mulT 0 525 rc_75 rx_10 (by decide) (by decide) (by decide) (by decide) (by decide)
          refine g_imul C (v := x_26) dX12_undo_50 hx_26 ?_
          refine g_iload_n C 1 dX12_undo_51 rfl rfl ?_
          obtain ⟨x_27, hx_27, rx_27, tx_27⟩ := ex_add 0 599 rx_26 rv_19 (by decide) (by decide) (by decide) (by decide)
          refine g_iadd C (v := x_27) dX12_undo_52 hx_27 ?_
          obtain ⟨x_28, hx_28, rx_28⟩ := ex_any (z0 := I_20 b_2 (x_27.toNatClampNeg))
          refine h_iald C K hb_2L hb_2k (v := x_28) (x_27.toNatClampNeg) (rfl) (ix_0 rx_27 (by decide)) (ix_lt rx_27 (by decide) hb_2n (by decide)) hx_28 dX12_undo_53 ?_
          refine h_iast C K hb_1L hb_1k (x_25.toNatClampNeg) (rfl) (ix_0 rx_25 (by decide)) (ix_lt rx_25 (by decide) hb_1n (by decide)) dX12_undo_54 (fun I_29 hI_29 => ?_)
          obtain ⟨x_30, hx_30, rx_30, tx_30⟩ := ex_add (y := 1) 1 75 rv_19 rc_1 (by decide) (by decide) (by decide) (by decide)
          refine g_iinc C dX12_undo_55 (k := 1) (v := x_30) rfl hx_30 (by decide) (lo2 := [(1, .int x_30), (0, .ref x)]) rfl ?_
          refine g_goto C (tgt := 26) dX12_undo_58 (by decide) ?_
          refine g_lo (is := [1, 0]) (lo2 := [(0, .ref x), (1, .int x_30)]) rfl ?_
          have kk_26 : x_30.toNatClampNeg = v_19.toNatClampNeg + 1 := by have q1 := ix_n rv_19 (by decide); have q2 := (ti_k tx_30 rc_1); have q3 : x_30.toNatClampNeg = x_30.toInt.toNat := rfl; omega
          exact ih_26 x_30 I_29 (by have := (ti_k tx_30 rc_1); omega) (by have := (ti_k tx_30 rc_1); omega) (by rw [kk_26]; exact cpn_s hI_20 hx_28 hI_29 (show x_27.toNatClampNeg = (75 * x_10.toNatClampNeg) + v_19.toNatClampNeg from by rw [nx_a tx_27 rx_26 rv_19 (by decide), nx_m (k := 75) tx_26 rx_10 (by decide)] <;> omega) (show x_25.toNatClampNeg = (72) + v_19.toNatClampNeg from by rw [nx_a tx_25 rc_72 rv_19 (by decide)]; simp only [show (72 : Int32).toNatClampNeg = 72 from rfl] <;> omega) (Or.inl (ne_ro (ro_a hb_2k (by decide) hb_2o hkx rfl) (ro_a hb_1k (by decide) hb_1o hkx rfl) (by decide))))
    exact l_26 75 0 I_11 (by decide) (by decide) cpn_0
  · skip
    have r_31 := (⟨(rx_6).1, (eq_rg (h_7) rc_0).2⟩ : Rg 0 0 x_6)
    refine g_iconst C (v := (-1)) dX12_undo_12 (by decide) ?_
    exact g_zret (ty := .int) (r := (-1)) B K rfl (rfl) ⟨hU_4, hF_5, hG, rg_w rc_m1 (by decide) (by decide)⟩ dX12_undo_13
set_option maxRecDepth 100000 in
set_option maxHeartbeats 8000000 in
theorem c_X12_image {l : Launch} {D : va_G} {cy : Nat → ClassId} {L : List Nat} {κ ln : Nat → Nat} {R : Nat → Nat → Option Nat} {I : Nat → Nat → Int32} {J : Nat → Nat → Int64} {ow : Nat → Nat × Nat} (W9 : ∀ a ∈ L, Shp L κ ln R ow a) {x : Nat} (hLx : x ∈ L) (hkx : κ x = 12) (a0 : Int32) (hU : Iw L κ R ow I) : CtI l yX12_image cX12_image 3 (some .boolean) { frames := 1, cells := 0, slots := 0, locals := 22 } D cy L κ ln R I J [.ref x, .int a0] (fun r I2 J2 => Iw L κ R ow I2 ∧ Fq L κ ow [1200, 83600, 84200] I I2 ∧ Fq L κ ow [84100] J J2 ∧ Rg 0 1 r) := by
  refine CtI.of (by decide +kernel) (Nat.le_of_ble_eq_true rfl) ?_
  intro p e s m below meth c B K
  have C := B.1
  have hF : Fq L κ ow [1200, 83600, 84200] I I := fq_rf
  have hG : Fq L κ ow [84100] J J := fq_rf
  obtain ⟨b_1, hb_1, hb_1L, hb_1k, hb_1n, hb_1o⟩ := shp_a (W9 x hLx) hkx 14 14 389 rfl (by decide)
  obtain ⟨b_2, hb_2, hb_2L, hb_2k, hb_2n, hb_2o⟩ := shp_a (W9 x hLx) hkx 19 15 13 rfl (by decide)
  obtain ⟨b_3, hb_3, hb_3L, hb_3k, hb_3n, hb_3o⟩ := shp_a (W9 x hLx) hkx 22 16 2 rfl (by decide)
  obtain ⟨b_4, hb_4, hb_4L, hb_4k, hb_4n, hb_4o⟩ := shp_a (W9 x hLx) hkx 21 15 26 rfl (by decide)
  obtain ⟨b_5, hb_5, hb_5L, hb_5k, hb_5n, hb_5o⟩ := shp_a (W9 x hLx) hkx 16 14 778 rfl (by decide)
  refine g_lo (is := [0, 1]) (lo2 := [(0, .ref x), (1, .int a0)]) rfl ?_
  have l_51 : ∀ (n_51 : Nat) (I_6 : Nat → Nat → Int32) (J_7 : Nat → Nat → Int64) (hU_8 : Iw L κ R ow I_6) (hF_9 : Fq L κ ow [1200, 83600, 84200] I I_6) (hG_10 : Fq L κ ow [84100] J J_7) (v_11 : Int32) (rv_11 : Rg 0 1 v_11) (v_12 : Int32) (rv_12 : Rg 0 13 v_12) (q_13 : I_6 x 0 = 0) (hm_14 : 13 < (v_12 : Int32).toInt + (n_51 : Int)), WG p l e { frames := 1, cells := 0, slots := 0, locals := 22 } s m ([.ref x, .int a0] : List Value).toArray below meth c 3 0 0 (MQ below (Qi_ D cy L κ ln R (fun r I2 J2 => Iw L κ R ow I2 ∧ Fq L κ ow [1200, 83600, 84200] I I2 ∧ Fq L κ ow [84100] J J2 ∧ Rg 0 1 r)) ([.ref x, .int a0] : List Value).toArray s 0 0 (Al_ L)) D cy (Al_ L) s.heap L κ ln R I_6 J_7 51 [(0, .ref x), (1, .int v_11), (2, .int v_12)] [] := by
    intro n_51
    induction n_51 with
    | zero =>
      intro I_6 J_7 hU_8 hF_9 hG_10 v_11 rv_11 v_12 rv_12 q_13 hm_14
      exact ms_0 rv_12 hm_14
    | succ n_51 ih_51 =>
      intro I_6 J_7 hU_8 hF_9 hG_10 v_11 rv_11 v_12 rv_12 q_13 hm_14
      refine g_iload_n C 2 dX12_image_51 rfl rfl ?_
      refine g_bipush C (v := 13) dX12_image_52 (by decide) ?_
      refine g_icmp_ge C (tgt := 80) dX12_image_54 (by decide) (fun h_15 => ?_) (fun h_15 => ?_)
      · skip
        have r_16 := le_r (h_15) rc_13 rv_12
        refine g_aload_n C 0 dX12_image_80 rfl rfl ?_
        refine g_getR C K hLx hkx f_12_38 hb_3 dX12_image_81 ?_
        refine g_iload_n C 1 dX12_image_84 rfl rfl ?_
        refine g_iconst C (v := 1) dX12_image_85 (by decide) ?_
        refine h_zast C K hb_3L hb_3k (v_11.toNatClampNeg) (rfl) (ix_0 rv_11 (by decide)) (ix_lt rv_11 (by decide) hb_3n (by decide)) dX12_image_86 (fun I_17 hI_17 => ?_)
        have hU_18 := iw_put W9 hU_8 hI_17 (ro_a hb_3k (by decide) hb_3o hkx rfl) (lo := 0) (hi := 1) (rfl) (nar_zz _) rfl
        have hF_19 := fq_puta hF_9 hI_17 (ro_a hb_3k (by decide) hb_3o hkx rfl) (by decide) (by decide)
        refine g_iconst C (v := 1) dX12_image_87 (by decide) ?_
        exact g_zret (ty := .boolean) (r := 1) B K rfl (rfl) ⟨hU_18, hF_19, hG_10, rg_w rc_1 (by decide) (by decide)⟩ dX12_image_88
      · skip
        have r_20 := lt_l (hi := 12) (nle h_15) rv_12 rc_13 (by decide)
        refine g_aload_n C 0 dX12_image_57 rfl rfl ?_
        refine g_getR C K hLx hkx f_12_35 hb_4 dX12_image_58 ?_
        refine g_bipush C (v := 13) dX12_image_61 (by decide) ?_
        refine g_iload_n C 1 dX12_image_63 rfl rfl ?_
        obtain ⟨x_21, hx_21, rx_21, tx_21⟩ := ex_mulT 0 13 rc_13 rv_11 (by decide) (by decide) (by decide) (by decide) (by decide)
        refine g_imul C (v := x_21) dX12_image_64 hx_21 ?_
        refine g_iload_n C 2 dX12_image_65 rfl rfl ?_
        obtain ⟨x_22, hx_22, rx_22, tx_22⟩ := ex_add 0 25 rx_21 r_20 (by decide) (by decide) (by decide) (by decide)
        refine g_iadd C (v := x_22) dX12_image_66 hx_22 ?_
        refine g_aload_n C 0 dX12_image_67 rfl rfl ?_
        refine g_getR C K hLx hkx f_12_28 hb_2 dX12_image_68 ?_
        refine g_iload_n C 2 dX12_image_71 rfl rfl ?_
        obtain ⟨y_23, hy_23⟩ : ∃ z, J_7 b_2 (v_12.toNatClampNeg) = z := ⟨_, rfl⟩
        refine h_lald C K hb_2L hb_2k (v := y_23) (v_12.toNatClampNeg) (rfl) (ix_0 r_20 (by decide)) (ix_lt r_20 (by decide) hb_2n (by decide)) hy_23 dX12_image_72 ?_
        refine h_last C K hb_4L hb_4k (x_22.toNatClampNeg) (rfl) (ix_0 rx_22 (by decide)) (ix_lt rx_22 (by decide) hb_4n (by decide)) dX12_image_73 (fun J_24 hJ_24 => ?_)
        have hG_25 := fq_puta hG_10 hJ_24 (ro_a hb_4k (by decide) hb_4o hkx rfl) (by decide) (by decide)
        obtain ⟨x_26, hx_26, rx_26, tx_26⟩ := ex_add (y := 1) 1 13 r_20 rc_1 (by decide) (by decide) (by decide) (by decide)
        refine g_iinc C dX12_image_74 (k := 2) (v := x_26) rfl hx_26 (by decide) (lo2 := [(2, .int x_26), (0, .ref x), (1, .int v_11)]) rfl ?_
        refine g_goto C (tgt := 51) dX12_image_77 (by decide) ?_
        refine g_lo (is := [1, 2, 0]) (lo2 := [(0, .ref x), (1, .int v_11), (2, .int x_26)]) rfl ?_
        exact ih_51 I_6 J_24 hU_8 hF_9 hG_25 v_11 (rv_11) x_26 (rg_w rx_26 (by decide) (by decide)) q_13 (ms_1 hm_14 (ti_k tx_26 rc_1) (by decide))
  refine g_aload_n C 0 dX12_image_0 rfl rfl ?_
  refine g_iconst C (v := 0) dX12_image_1 (by decide) ?_
  refine h_putI C K hLx hkx f_12_82 p_12_0 dX12_image_2 (fun I_27 hI_27 => ?_)
  have hU_28 := iw_put W9 hU hI_27 (ro_o hkx (by decide)) (lo := (-2147483648)) (hi := 2147483647) (rfl) (rg_all _) rfl
  have hF_29 := fq_puto hF hI_27 hkx (by decide) (by decide)
  refine g_iload_n C 1 dX12_image_5 rfl rfl ?_
  refine g_iconst C (v := 0) dX12_image_6 (by decide) ?_
  refine g_iconst C (v := 1) dX12_image_7 (by decide) ?_
  refine g_callSI C K (c_X12_isIn W9 a0 0 1 (rg_w rc_0 (by decide) (by decide)) (rg_w rc_1 (by decide) (by decide)) hU_28) s_12_149 rfl ⟨rfl, rfl⟩ ⟨Nat.le_of_ble_eq_true rfl, Nat.le_of_ble_eq_true rfl⟩ (Nat.le_of_ble_eq_true rfl) ⟨Nat.le_of_ble_eq_true rfl, Nat.le_of_ble_eq_true rfl⟩ dX12_image_8 rfl (st := []) (fun x_30 I_31 J_32 h_33 => ?_)
  obtain ⟨rfl, rfl, rx_30, ex_30⟩ := h_33
  refine g_if_ne C (tgt := 16) dX12_image_11 (by decide) (fun h_34 => ?_) (fun h_34 => ?_)
  · skip
    have n_35 : ¬ x_30 = 0 := h_34
    have r_36 := ne_lo (lo := 1) n_35 rx_30 rc_0 rfl (by decide)
    have r_37 := le_r (((ex_30.1) n_35)) rc_0 (rg_all a0)
    have r_38 := le_l (((ex_30.2) n_35)) r_37 rc_1
    refine g_iconst C (v := 0) dX12_image_16 (by decide) ?_
    refine g_istore_n C dX12_image_17 rfl (by decide) (lo2 := [(2, .int 0), (0, .ref x), (1, .int a0)]) rfl ?_
    refine g_lo (is := [1, 2, 0]) (lo2 := [(0, .ref x), (1, .int a0), (2, .int 0)]) rfl ?_
    have ex_18 : ∀ (I_40 : Nat → Nat → Int32) (hI_40 : I_40 = cpn_ I_27 b_1 b_5 (0) (389 * a0.toNatClampNeg) 389) (v_39 : Int32) (rv_39 : Rg 389 389 v_39), WG p l e { frames := 1, cells := 0, slots := 0, locals := 22 } s m ([.ref x, .int a0] : List Value).toArray below meth c 3 0 0 (MQ below (Qi_ D cy L κ ln R (fun r I2 J2 => Iw L κ R ow I2 ∧ Fq L κ ow [1200, 83600, 84200] I I2 ∧ Fq L κ ow [84100] J J2 ∧ Rg 0 1 r)) ([.ref x, .int a0] : List Value).toArray s 0 0 (Al_ L)) D cy (Al_ L) s.heap L κ ln R I_40 J 49 [(0, .ref x), (1, .int a0), (2, .int v_39)] [] := by
      intro I_40 hI_40 v_39 rv_39
      have hF_41 := fq_cpn hF_29 hI_40 (ro_a hb_5k (by decide) hb_5o hkx rfl) (by decide) (by decide)
      have hU_42 := uw_cpn hU_28.1 hb_1L hI_40 (ro_a hb_5k (by decide) hb_5o hkx rfl) (ro_a hb_1k (by decide) hb_1o hkx rfl) (fun i hi => by rw [bn_836, bn_834, show (389 * a0.toNatClampNeg + i) % 389 = 0 + i by omega]; exact ⟨Int.le_refl _, Int.le_refl _⟩)
      have hU_43 := iw_im (q0 := a0.toNatClampNeg) W9 hU_28 hU_42 hLx hkx hb_1 hb_5 hI_40
      refine g_iconst C (v := 0) dX12_image_49 (by decide) ?_
      refine g_istore_n C dX12_image_50 rfl (by decide) (lo2 := [(2, .int 0), (0, .ref x), (1, .int a0)]) rfl ?_
      refine g_lo (is := [1, 2, 0]) (lo2 := [(0, .ref x), (1, .int a0), (2, .int 0)]) rfl ?_
      exact l_51 14 I_40 J hU_43 hF_41 hG a0 (r_38) 0 (rg_w rc_0 (by decide) (by decide)) (kp_cn (κ := κ) hI_40 (by rw [hkx, hb_5k]; decide) (kp_s hI_27)) (ms_s (a := 0) (b := 13) (N := 14) (rg_w rc_0 (by decide) (by decide)) (by decide))
    have l_18 : ∀ (m_18 : Nat) (v_44 : Int32) (I_45 : Nat → Nat → Int32), v_44.toInt + (m_18 : Int) = 389 → 0 ≤ v_44.toInt → I_45 = cpn_ I_27 b_1 b_5 (0) (389 * a0.toNatClampNeg) v_44.toNatClampNeg → WG p l e { frames := 1, cells := 0, slots := 0, locals := 22 } s m ([.ref x, .int a0] : List Value).toArray below meth c 3 0 0 (MQ below (Qi_ D cy L κ ln R (fun r I2 J2 => Iw L κ R ow I2 ∧ Fq L κ ow [1200, 83600, 84200] I I2 ∧ Fq L κ ow [84100] J J2 ∧ Rg 0 1 r)) ([.ref x, .int a0] : List Value).toArray s 0 0 (Al_ L)) D cy (Al_ L) s.heap L κ ln R I_45 J 18 [(0, .ref x), (1, .int a0), (2, .int v_44)] [] := by
      intro m_18
      induction m_18 with
      | zero =>
        intro v_44 I_45 hk_18 h0_18 hI_45
        have rv_44 : Rg 389 389 v_44 := by unfold Rg; omega
        refine g_iload_n C 2 dX12_image_18 rfl rfl ?_
        refine g_sipush C (v := 389) dX12_image_19 (by decide) ?_
        refine g_icmp_ge C (tgt := 49) dX12_image_22 (by decide) (fun h_46 => ?_) (fun h_46 => ?_)
        · skip
          refine g_lo (is := [0, 1, 2]) (lo2 := [(0, .ref x), (1, .int a0), (2, .int v_44)]) rfl ?_
          exact ex_18 I_45 (hI_45.trans (congrArg (fun q => cpn_ I_27 b_1 b_5 (0) (389 * a0.toNatClampNeg) q) (show v_44.toNatClampNeg = 389 from by have := ix_n rv_44 (by decide); have := rv_44.1; have := rv_44.2; omega))) v_44 rv_44
        · skip
          have r_47 := lt_l (hi := 388) (nle h_46) rv_44 rc_389 (by decide)
          exact rg_no r_47 (by decide)
      | succ m_18 ih_18 =>
        intro v_44 I_45 hk_18 h0_18 hI_45
        have rv_44 : Rg 0 388 v_44 := by unfold Rg; omega
        refine g_iload_n C 2 dX12_image_18 rfl rfl ?_
        refine g_sipush C (v := 389) dX12_image_19 (by decide) ?_
        refine g_icmp_ge C (tgt := 49) dX12_image_22 (by decide) (fun h_48 => ?_) (fun h_48 => ?_)
        · skip
          have r_49 := le_r (h_48) rc_389 rv_44
          exact rg_no r_49 (by decide)
        · skip
          refine g_aload_n C 0 dX12_image_25 rfl rfl ?_
          refine g_getR C K hLx hkx f_12_19 hb_5 dX12_image_26 ?_
          refine g_sipush C (v := 389) dX12_image_29 (by decide) ?_
          refine g_iload_n C 1 dX12_image_32 rfl rfl ?_
          obtain ⟨x_50, hx_50, rx_50, tx_50⟩ := ex_mulT 0 389 rc_389 r_38 (by decide) (by decide) (by decide) (by decide) (by decide)
          refine g_imul C (v := x_50) dX12_image_33 hx_50 ?_
          refine g_iload_n C 2 dX12_image_34 rfl rfl ?_
          obtain ⟨x_51, hx_51, rx_51, tx_51⟩ := ex_add 0 777 rx_50 rv_44 (by decide) (by decide) (by decide) (by decide)
          refine g_iadd C (v := x_51) dX12_image_35 hx_51 ?_
          refine g_aload_n C 0 dX12_image_36 rfl rfl ?_
          refine g_getR C K hLx hkx f_12_13 hb_1 dX12_image_37 ?_
          refine g_iload_n C 2 dX12_image_40 rfl rfl ?_
          obtain ⟨x_52, hx_52, rx_52⟩ := ex_any (z0 := I_45 b_1 (v_44.toNatClampNeg))
          refine h_iald C K hb_1L hb_1k (v := x_52) (v_44.toNatClampNeg) (rfl) (ix_0 rv_44 (by decide)) (ix_lt rv_44 (by decide) hb_1n (by decide)) hx_52 dX12_image_41 ?_
          refine h_iast C K hb_5L hb_5k (x_51.toNatClampNeg) (rfl) (ix_0 rx_51 (by decide)) (ix_lt rx_51 (by decide) hb_5n (by decide)) dX12_image_42 (fun I_53 hI_53 => ?_)
          obtain ⟨x_54, hx_54, rx_54, tx_54⟩ := ex_add (y := 1) 1 389 rv_44 rc_1 (by decide) (by decide) (by decide) (by decide)
          refine g_iinc C dX12_image_43 (k := 2) (v := x_54) rfl hx_54 (by decide) (lo2 := [(2, .int x_54), (0, .ref x), (1, .int a0)]) rfl ?_
          refine g_goto C (tgt := 18) dX12_image_46 (by decide) ?_
          refine g_lo (is := [1, 2, 0]) (lo2 := [(0, .ref x), (1, .int a0), (2, .int x_54)]) rfl ?_
          have kk_18 : x_54.toNatClampNeg = v_44.toNatClampNeg + 1 := by have q1 := ix_n rv_44 (by decide); have q2 := (ti_k tx_54 rc_1); have q3 : x_54.toNatClampNeg = x_54.toInt.toNat := rfl; omega
          exact ih_18 x_54 I_53 (by have := (ti_k tx_54 rc_1); omega) (by have := (ti_k tx_54 rc_1); omega) (by rw [kk_18]; exact cpn_s hI_45 hx_52 hI_53 (show v_44.toNatClampNeg = (0) + v_44.toNatClampNeg from by omega) (show x_51.toNatClampNeg = (389 * a0.toNatClampNeg) + v_44.toNatClampNeg from by rw [nx_a tx_51 rx_50 rv_44 (by decide), nx_m (k := 389) tx_50 r_38 (by decide)] <;> omega) (Or.inl (ne_ro (ro_a hb_1k (by decide) hb_1o hkx rfl) (ro_a hb_5k (by decide) hb_5o hkx rfl) (by decide))))
    exact l_18 389 0 I_27 (by decide) (by decide) cpn_0
  · skip
    have r_55 := (⟨(rx_30).1, (eq_rg (h_34) rc_0).2⟩ : Rg 0 0 x_30)
    refine g_iconst C (v := 0) dX12_image_14 (by decide) ?_
    exact g_zret (ty := .boolean) (r := 0) B K rfl (rfl) ⟨hU_28, hF_29, hG, rg_w rc_0 (by decide) (by decide)⟩ dX12_image_15
set_option maxRecDepth 100000 in
set_option maxHeartbeats 8000000 in
theorem c_X12_pass {l : Launch} {D : va_G} {cy : Nat → ClassId} {L : List Nat} {κ ln : Nat → Nat} {R : Nat → Nat → Option Nat} {I : Nat → Nat → Int32} {J : Nat → Nat → Int64} {ow : Nat → Nat × Nat} (W9 : ∀ a ∈ L, Shp L κ ln R ow a) {x : Nat} (hLx : x ∈ L) (hkx : κ x = 12) (a0 : Int32) (ra0 : Rg 0 6 a0) (hU : Iw L κ R ow I) : CtV l yX12_pass cX12_pass 7 none { frames := 3, cells := 0, slots := 0, locals := 70 } D cy L κ ln R I J [.ref x, .int a0] (fun I2 J2 => Iw L κ R ow I2 ∧ Fq L κ ow [83400] I I2 ∧ Fq L κ ow [] J J2 ∧ (Hd_ R x I I2)) := by
  refine CtV.of (by decide +kernel) (Nat.le_of_ble_eq_true rfl) ?_
  intro p e s m below meth c B K
  have C := B.1
  have hF : Fq L κ ow [83400] I I := fq_rf
  have hG : Fq L κ ow [] J J := fq_rf
  obtain ⟨b_1, hb_1, hb_1L, hb_1k, hb_1n, hb_1o⟩ := shp_a (W9 x hLx) hkx 14 14 389 rfl (by decide)
  refine g_lo (is := [0, 1]) (lo2 := [(0, .ref x), (1, .int a0)]) rfl ?_
  have l_20 : ∀ (n_20 : Nat) (I_2 : Nat → Nat → Int32) (J_3 : Nat → Nat → Int64) (hU_4 : Iw L κ R ow I_2) (hF_5 : Fq L κ ow [83400] I I_2) (hG_6 : Fq L κ ow [] J J_3) (v_7 : Int32) (rv_7 : Rg 0 6 v_7) (v_8 : Int32) (rv_8 : Rg (-1) 6 v_8) (v_9 : Int32) (rv_9 : Rg 0 9 v_9) (v_10 : Int32) (rv_10 : Rg 0 6 v_10) (hd_11 : Hd_ R x I I_2) (hm_12 : 6 < (v_10 : Int32).toInt + (n_20 : Int)), WG p l e { frames := 3, cells := 0, slots := 0, locals := 70 } s m ([.ref x, .int a0] : List Value).toArray below meth c 7 0 0 (MQ below (Qv_ D cy L κ ln R (fun I2 J2 => Iw L κ R ow I2 ∧ Fq L κ ow [83400] I I2 ∧ Fq L κ ow [] J J2 ∧ (Hd_ R x I I2))) ([.ref x, .int a0] : List Value).toArray s 0 0 (Al_ L)) D cy (Al_ L) s.heap L κ ln R I_2 J_3 20 [(0, .ref x), (1, .int v_7), (2, .int v_8), (3, .int v_9), (4, .int v_10)] [] := by
    intro n_20
    induction n_20 with
    | zero =>
      intro I_2 J_3 hU_4 hF_5 hG_6 v_7 rv_7 v_8 rv_8 v_9 rv_9 v_10 rv_10 hd_11 hm_12
      exact ms_0 rv_10 hm_12
    | succ n_20 ih_20 =>
      intro I_2 J_3 hU_4 hF_5 hG_6 v_7 rv_7 v_8 rv_8 v_9 rv_9 v_10 rv_10 hd_11 hm_12
      refine g_iload C 4 dX12_pass_20 rfl ?_
      refine g_bipush C (v := 6) dX12_pass_22 (by decide) ?_
      refine g_icmp_ge C (tgt := 119) dX12_pass_24 (by decide) (fun h_13 => ?_) (fun h_13 => ?_)
      · skip
        have r_14 := le_r (h_13) rc_6 rv_10
        refine g_aload_n C 0 dX12_pass_119 rfl rfl ?_
        refine g_getR C K hLx hkx f_12_13 hb_1 dX12_pass_120 ?_
        refine g_bipush C (v := 77) dX12_pass_123 (by decide) ?_
        refine g_dup2 C dX12_pass_125 rfl rfl ?_
        obtain ⟨x_15, hx_15, rx_15⟩ := ex_any (z0 := I_2 b_1 (77))
        refine h_iald C K hb_1L hb_1k (v := x_15) (77) (by decide) (by decide) (by rw [hb_1n]; decide) hx_15 dX12_pass_126 ?_
        refine g_iconst C (v := 1) dX12_pass_127 (by decide) ?_
        obtain ⟨x_16, hx_16, rx_16⟩ := ex_any (z0 := x_15 + 1)
        refine g_iadd C (v := x_16) dX12_pass_128 hx_16 ?_
        refine h_iast C K hb_1L hb_1k (77) (by decide) (by decide) (by rw [hb_1n]; decide) dX12_pass_129 (fun I_17 hI_17 => ?_)
        have hU_18 := iw_free W9 hU_4 (uw_put hU_4.1 hI_17 (ro_a hb_1k (by decide) hb_1o hkx rfl) (lo := (-2147483648)) (hi := 2147483647) (by decide) (rx_16)) hLx hkx hb_1 hI_17 (by omega)
        have hF_19 := fq_puta hF_5 hI_17 (ro_a hb_1k (by decide) hb_1o hkx rfl) (by decide) (by decide)
        exact g_vret B K rfl ⟨hU_18, hF_19, hG_6, (hd_u (r := 0) W9 hLx hkx hd_11 hI_17 (Or.inr (Or.inr (by decide))))⟩ dX12_pass_130
      · skip
        have r_20 := lt_l (hi := 5) (nle h_13) rv_10 rc_6 (by decide)
        refine g_aload_n C 0 dX12_pass_27 rfl rfl ?_
        refine g_iload_n C 1 dX12_pass_28 rfl rfl ?_
        refine g_iload C 4 dX12_pass_29 rfl ?_
        refine g_callVI C K (c_X12_onPlate W9 hLx hkx v_7 v_10 (rv_7) (r_20) hU_4) hLx hkx (by decide) rfl v_12_234 rfl ⟨rfl, rfl⟩ ⟨Nat.le_of_ble_eq_true rfl, Nat.le_of_ble_eq_true rfl⟩ (Nat.le_of_ble_eq_true rfl) ⟨Nat.le_of_ble_eq_true rfl, Nat.le_of_ble_eq_true rfl⟩ dX12_pass_31 rfl (st := []) (fun x_21 I_22 J_23 h_24 => ?_)
        obtain ⟨rfl, rfl, rx_21, ex_21⟩ := h_24
        refine g_istore C dX12_pass_34 (by decide) (lo2 := [(5, .int x_21), (0, .ref x), (1, .int v_7), (2, .int v_8), (3, .int v_9), (4, .int v_10)]) rfl ?_
        refine g_iload C 0 dX12_pass_36 rfl ?_
        refine g_iload_n C 4 dX12_pass_38 rfl rfl ?_
        refine g_callSI C K (c_X12_least W9 x_21 v_9  hU_4) s_12_265 rfl ⟨rfl, rfl⟩ ⟨Nat.le_of_ble_eq_true rfl, Nat.le_of_ble_eq_true rfl⟩ (Nat.le_of_ble_eq_true rfl) ⟨Nat.le_of_ble_eq_true rfl, Nat.le_of_ble_eq_true rfl⟩ dX12_pass_39 rfl (st := []) (fun x_25 I_26 J_27 h_28 => ?_)
        obtain ⟨rfl, rfl, rx_25, ex_25⟩ := h_28
        have r_29 := ls_rg ex_25 rx_21 rv_9 (lo := 0) (hi := 9) (by decide) (by decide)
        refine g_istore C dX12_pass_42 (by decide) (lo2 := [(6, .int x_25), (5, .int x_21), (0, .ref x), (1, .int v_7), (2, .int v_8), (3, .int v_9), (4, .int v_10)]) rfl ?_
        refine g_iload_n C 5 dX12_pass_44 rfl rfl ?_
        refine g_iload C 0 dX12_pass_45 rfl ?_
        obtain ⟨x_30, hx_30, rx_30, tx_30⟩ := ex_suble 9 rv_9 r_29 (ex_25.2.1) (by decide) (by decide)
        refine g_isub C (v := x_30) dX12_pass_47 hx_30 ?_
        refine g_istore_n C dX12_pass_48 rfl (by decide) (lo2 := [(3, .int x_30), (6, .int x_25), (5, .int x_21), (0, .ref x), (1, .int v_7), (2, .int v_8), (4, .int v_10)]) rfl ?_
        refine g_aload_n C 3 dX12_pass_49 rfl rfl ?_
        refine g_getR C K hLx hkx f_12_13 hb_1 dX12_pass_50 ?_
        refine g_bipush C (v := 105) dX12_pass_53 (by decide) ?_
        refine g_bipush C (v := 6) dX12_pass_55 (by decide) ?_
        refine g_iload_n C 4 dX12_pass_57 rfl rfl ?_
        obtain ⟨x_31, hx_31, rx_31, tx_31⟩ := ex_mulT 0 36 rc_6 rv_7 (by decide) (by decide) (by decide) (by decide) (by decide)
        refine g_imul C (v := x_31) dX12_pass_58 hx_31 ?_
        obtain ⟨x_32, hx_32, rx_32, tx_32⟩ := ex_add 105 141 rc_105 rx_31 (by decide) (by decide) (by decide) (by decide)
        refine g_iadd C (v := x_32) dX12_pass_59 hx_32 ?_
        refine g_iload C 6 dX12_pass_60 rfl ?_
        obtain ⟨x_33, hx_33, rx_33, tx_33⟩ := ex_add 105 146 rx_32 r_20 (by decide) (by decide) (by decide) (by decide)
        refine g_iadd C (v := x_33) dX12_pass_62 hx_33 ?_
        refine g_iconst C (v := 0) dX12_pass_63 (by decide) ?_
        refine h_iast C K hb_1L hb_1k (x_33.toNatClampNeg) (rfl) (ix_0 rx_33 (by decide)) (ix_lt rx_33 (by decide) hb_1n (by decide)) dX12_pass_64 (fun I_34 hI_34 => ?_)
        have hU_35 := uw_put hU_4.1 hI_34 (ro_a hb_1k (by decide) hb_1o hkx rfl) (lo := 0) (hi := 379) (bn_834.trans (zq_105 (ix_k (lo := 105) (hi := 146) rx_33 (by decide) (by decide) (by decide)))) (rg_w rc_0 (by decide) (by decide))
        have hF_36 := fq_puta hF_5 hI_34 (ro_a hb_1k (by decide) hb_1o hkx rfl) (by decide) (by decide)
        refine g_aload_n C 3 dX12_pass_65 rfl rfl ?_
        refine g_getR C K hLx hkx f_12_13 hb_1 dX12_pass_66 ?_
        refine g_bipush C (v := 75) dX12_pass_69 (by decide) ?_
        refine g_dup2 C dX12_pass_71 rfl rfl ?_
        obtain ⟨x_37, hx_37, rx_37⟩ := ex_any (z0 := I_34 b_1 (75))
        refine h_iald C K hb_1L hb_1k (v := x_37) (75) (by decide) (by decide) (by rw [hb_1n]; decide) hx_37 dX12_pass_72 ?_
        refine g_iload C 1 dX12_pass_73 rfl ?_
        obtain ⟨x_38, hx_38, rx_38⟩ := ex_any (z0 := x_37 + x_25)
        refine g_iadd C (v := x_38) dX12_pass_75 hx_38 ?_
        refine h_iast C K hb_1L hb_1k (75) (by decide) (by decide) (by rw [hb_1n]; decide) dX12_pass_76 (fun I_39 hI_39 => ?_)
        have hU_40 := uw_put hU_35 hI_39 (ro_a hb_1k (by decide) hb_1o hkx rfl) (lo := (-2147483648)) (hi := 2147483647) (by decide) (rx_38)
        have hF_41 := fq_puta hF_36 hI_39 (ro_a hb_1k (by decide) hb_1o hkx rfl) (by decide) (by decide)
        refine g_aload_n C 3 dX12_pass_77 rfl rfl ?_
        refine g_getR C K hLx hkx f_12_13 hb_1 dX12_pass_78 ?_
        refine g_iload_n C 5 dX12_pass_81 rfl rfl ?_
        refine g_iconst C (v := (-1)) dX12_pass_82 (by decide) ?_
        refine g_icmp_ne C (tgt := 94) dX12_pass_83 (by decide) (fun h_42 => ?_) (fun h_42 => ?_)
        · skip
          have n_43 : ¬ v_8 = (-1) := h_42
          have r_44 := ne_lo (lo := 0) n_43 rv_8 rc_m1 rfl (by decide)
          refine g_bipush C (v := 105) dX12_pass_94 (by decide) ?_
          refine g_bipush C (v := 6) dX12_pass_96 (by decide) ?_
          refine g_iload_n C 5 dX12_pass_98 rfl rfl ?_
          obtain ⟨x_45, hx_45, rx_45, tx_45⟩ := ex_mulT 0 36 rc_6 r_44 (by decide) (by decide) (by decide) (by decide) (by decide)
          refine g_imul C (v := x_45) dX12_pass_99 hx_45 ?_
          obtain ⟨x_46, hx_46, rx_46, tx_46⟩ := ex_add 105 141 rc_105 rx_45 (by decide) (by decide) (by decide) (by decide)
          refine g_iadd C (v := x_46) dX12_pass_100 hx_46 ?_
          refine g_iload C 6 dX12_pass_101 rfl ?_
          obtain ⟨x_47, hx_47, rx_47, tx_47⟩ := ex_add 105 146 rx_46 r_20 (by decide) (by decide) (by decide) (by decide)
          refine g_iadd C (v := x_47) dX12_pass_103 hx_47 ?_
          refine g_dup2 C dX12_pass_104 rfl rfl ?_
          obtain ⟨x_48, hx_48, rx_48⟩ := ex_getw (I := I_39) (a := b_1) (j := x_47.toNatClampNeg) (lo := 0) (hi := 379) hU_40 hb_1L (ro_a hb_1k (by decide) hb_1o hkx rfl) (bn_834.trans (zq_105 (ix_k (lo := 105) (hi := 146) rx_47 (by decide) (by decide) (by decide))))
          refine h_iald C K hb_1L hb_1k (v := x_48) (x_47.toNatClampNeg) (rfl) (ix_0 rx_47 (by decide)) (ix_lt rx_47 (by decide) hb_1n (by decide)) hx_48 dX12_pass_105 ?_
          refine g_iload C 2 dX12_pass_106 rfl ?_
          refine g_iload C 1 dX12_pass_108 rfl ?_
          obtain ⟨x_49, hx_49, rx_49, tx_49⟩ := ex_suble 379 rx_21 r_29 (ex_25.1) (by decide) (by decide)
          refine g_isub C (v := x_49) dX12_pass_110 hx_49 ?_
          obtain ⟨x_50, hx_50, rx_50, tx_50⟩ := ex_add 0 758 rx_48 rx_49 (by decide) (by decide) (by decide) (by decide)
          refine g_iadd C (v := x_50) dX12_pass_111 hx_50 ?_
          have q_51 := (show I_2 b_1 x_33.toNatClampNeg = x_21 from by rw [(show x_33.toNatClampNeg = 105 + 6 * v_7.toNatClampNeg + v_10.toNatClampNeg from by rw [nx_a tx_33 rx_32 r_20 (by decide), nx_a tx_32 rc_105 rx_31 (by decide), nx_m (k := 6) tx_31 rv_7 (by decide)]; rfl)]; exact (ex_21 _ hb_1).symm)
          have q_52 := rm_mv (I2 := I_39) W9 hU_4 hLx hkx hb_1 hb_1L (ro_a hb_1k (by decide) hb_1o hkx rfl) hI_34 (fun i hi => by rw [hI_39, u2_j (by rcases hi with q | ⟨p, hp, q⟩ <;> omega)]) (ix_lt (n := 6) (N := 6) r_20 (by decide) rfl (by decide)) (Or.inr ⟨v_7.toNatClampNeg, (ix_lt (n := 7) (N := 7) rv_7 (by decide) rfl (by decide)), rfl⟩ : cl_ v_10.toNatClampNeg (33 + 6 * v_7.toNatClampNeg + v_10.toNatClampNeg)) (Or.inr ⟨v_8.toNatClampNeg, (ix_lt (n := 7) (N := 7) r_44 (by decide) rfl (by decide)), rfl⟩ : cl_ v_10.toNatClampNeg (33 + 6 * v_8.toNatClampNeg + v_10.toNatClampNeg)) (show x_33.toNatClampNeg = 72 + (33 + 6 * v_7.toNatClampNeg + v_10.toNatClampNeg) from by rw [nx_a tx_33 rx_32 r_20 (by decide), nx_a tx_32 rc_105 rx_31 (by decide), nx_m (k := 6) tx_31 rv_7 (by decide)]; show 105 + 6 * _ + _ = _; omega) (show x_47.toNatClampNeg = 72 + (33 + 6 * v_8.toNatClampNeg + v_10.toNatClampNeg) from by rw [nx_a tx_47 rx_46 r_20 (by decide), nx_a tx_46 rc_105 rx_45 (by decide), nx_m (k := 6) tx_45 r_44 (by decide)]; show 105 + 6 * _ + _ = _; omega) (by decide)
          have q_53 := (show x_49.toInt ≤ (I_2 b_1 x_33.toNatClampNeg).toInt - (0 : Int32).toInt from by rw [q_51, tx_49, show (0 : Int32).toInt = 0 from by decide]; have := (r_29).1; omega)
          have r_54 := rm_z q_52 hx_48 q_53 tx_50 (rx_50)
          refine h_iast C K hb_1L hb_1k (x_47.toNatClampNeg) (rfl) (ix_0 rx_47 (by decide)) (ix_lt rx_47 (by decide) hb_1n (by decide)) dX12_pass_112 (fun I_55 hI_55 => ?_)
          have hU_56 := iw_mv W9 hU_4.2 (uw_put hU_40 hI_55 (ro_a hb_1k (by decide) hb_1o hkx rfl) (lo := 0) (hi := 379) (bn_834.trans (zq_105 (ix_k (lo := 105) (hi := 146) rx_47 (by decide) (by decide) (by decide)))) (r_54)) hLx hkx hb_1 hI_34 hI_39 (by omega) hI_55 (ix_lt (n := 6) (N := 6) r_20 (by decide) rfl (by decide)) (Or.inr ⟨v_7.toNatClampNeg, (ix_lt (n := 7) (N := 7) rv_7 (by decide) rfl (by decide)), rfl⟩ : cl_ v_10.toNatClampNeg (33 + 6 * v_7.toNatClampNeg + v_10.toNatClampNeg)) (Or.inr ⟨v_8.toNatClampNeg, (ix_lt (n := 7) (N := 7) r_44 (by decide) rfl (by decide)), rfl⟩ : cl_ v_10.toNatClampNeg (33 + 6 * v_8.toNatClampNeg + v_10.toNatClampNeg)) (show x_33.toNatClampNeg = 72 + (33 + 6 * v_7.toNatClampNeg + v_10.toNatClampNeg) from by rw [nx_a tx_33 rx_32 r_20 (by decide), nx_a tx_32 rc_105 rx_31 (by decide), nx_m (k := 6) tx_31 rv_7 (by decide)]; show 105 + 6 * _ + _ = _; omega) (show x_47.toNatClampNeg = 72 + (33 + 6 * v_8.toNatClampNeg + v_10.toNatClampNeg) from by rw [nx_a tx_47 rx_46 r_20 (by decide), nx_a tx_46 rc_105 rx_45 (by decide), nx_m (k := 6) tx_45 r_44 (by decide)]; show 105 + 6 * _ + _ = _; omega) x_49.toInt q_53 (by rw [hx_48]; exact tx_50)
          have hF_57 := fq_puta hF_41 hI_55 (ro_a hb_1k (by decide) hb_1o hkx rfl) (by decide) (by decide)
          obtain ⟨x_58, hx_58, rx_58, tx_58⟩ := ex_add (y := 1) 1 6 r_20 rc_1 (by decide) (by decide) (by decide) (by decide)
          refine g_iinc C dX12_pass_113 (k := 6) (v := x_58) rfl hx_58 (by decide) (lo2 := [(4, .int x_58), (3, .int x_30), (6, .int x_25), (5, .int x_21), (0, .ref x), (1, .int v_7), (2, .int v_8)]) rfl ?_
          refine g_goto C (tgt := 20) dX12_pass_116 (by decide) ?_
          refine g_lo (is := [4, 5, 6, 1, 0]) (lo2 := [(0, .ref x), (1, .int v_7), (2, .int v_8), (3, .int x_30), (4, .int x_58)]) rfl ?_
          exact ih_20 I_55 J_3 hU_56 hF_57 hG_6 v_7 (rv_7) v_8 (rg_w r_44 (by decide) (by decide)) x_30 (rx_30) x_58 (rg_w rx_58 (by decide) (by decide)) (hd_u (r := 0) W9 hLx hkx (hd_u (r := 0) W9 hLx hkx (hd_u (r := 0) W9 hLx hkx hd_11 hI_34 (Or.inr (Or.inr (ix_ge rx_33 (by decide))))) hI_39 (Or.inr (Or.inr (by decide)))) hI_55 (Or.inr (Or.inr (ix_ge rx_47 (by decide))))) (ms_1 hm_12 (ti_k tx_58 rc_1) (by decide))
        · skip
          have r_59 := (⟨(rv_8).1, (eq_rg (h_42) rc_m1).2⟩ : Rg (-1) (-1) v_8)
          refine g_bipush C (v := 78) dX12_pass_86 (by decide) ?_
          refine g_iload C 6 dX12_pass_88 rfl ?_
          obtain ⟨x_60, hx_60, rx_60, tx_60⟩ := ex_add 78 83 rc_78 r_20 (by decide) (by decide) (by decide) (by decide)
          refine g_iadd C (v := x_60) dX12_pass_90 hx_60 ?_
          refine g_goto C (tgt := 104) dX12_pass_91 (by decide) ?_
          refine g_dup2 C dX12_pass_104 rfl rfl ?_
          obtain ⟨x_61, hx_61, rx_61⟩ := ex_getw (I := I_39) (a := b_1) (j := x_60.toNatClampNeg) (lo := 0) (hi := 379) hU_40 hb_1L (ro_a hb_1k (by decide) hb_1o hkx rfl) (bn_834.trans (zq_78 (ix_k (lo := 78) (hi := 83) rx_60 (by decide) (by decide) (by decide))))
          refine h_iald C K hb_1L hb_1k (v := x_61) (x_60.toNatClampNeg) (rfl) (ix_0 rx_60 (by decide)) (ix_lt rx_60 (by decide) hb_1n (by decide)) hx_61 dX12_pass_105 ?_
          refine g_iload C 2 dX12_pass_106 rfl ?_
          refine g_iload C 1 dX12_pass_108 rfl ?_
          obtain ⟨x_62, hx_62, rx_62, tx_62⟩ := ex_suble 379 rx_21 r_29 (ex_25.1) (by decide) (by decide)
          refine g_isub C (v := x_62) dX12_pass_110 hx_62 ?_
          obtain ⟨x_63, hx_63, rx_63, tx_63⟩ := ex_add 0 758 rx_61 rx_62 (by decide) (by decide) (by decide) (by decide)
          refine g_iadd C (v := x_63) dX12_pass_111 hx_63 ?_
          have q_64 := (show I_2 b_1 x_33.toNatClampNeg = x_21 from by rw [(show x_33.toNatClampNeg = 105 + 6 * v_7.toNatClampNeg + v_10.toNatClampNeg from by rw [nx_a tx_33 rx_32 r_20 (by decide), nx_a tx_32 rc_105 rx_31 (by decide), nx_m (k := 6) tx_31 rv_7 (by decide)]; rfl)]; exact (ex_21 _ hb_1).symm)
          have q_65 := rm_mv (I2 := I_39) W9 hU_4 hLx hkx hb_1 hb_1L (ro_a hb_1k (by decide) hb_1o hkx rfl) hI_34 (fun i hi => by rw [hI_39, u2_j (by rcases hi with q | ⟨p, hp, q⟩ <;> omega)]) (ix_lt (n := 6) (N := 6) r_20 (by decide) rfl (by decide)) (Or.inr ⟨v_7.toNatClampNeg, (ix_lt (n := 7) (N := 7) rv_7 (by decide) rfl (by decide)), rfl⟩ : cl_ v_10.toNatClampNeg (33 + 6 * v_7.toNatClampNeg + v_10.toNatClampNeg)) (Or.inl rfl : cl_ v_10.toNatClampNeg (6 + v_10.toNatClampNeg)) (show x_33.toNatClampNeg = 72 + (33 + 6 * v_7.toNatClampNeg + v_10.toNatClampNeg) from by rw [nx_a tx_33 rx_32 r_20 (by decide), nx_a tx_32 rc_105 rx_31 (by decide), nx_m (k := 6) tx_31 rv_7 (by decide)]; show 105 + 6 * _ + _ = _; omega) (show x_60.toNatClampNeg = 72 + (6 + v_10.toNatClampNeg) from by rw [nx_a tx_60 rc_78 r_20 (by decide)]; show 78 + _ = _; omega) (by decide)
          have q_66 := (show x_62.toInt ≤ (I_2 b_1 x_33.toNatClampNeg).toInt - (0 : Int32).toInt from by rw [q_64, tx_62, show (0 : Int32).toInt = 0 from by decide]; have := (r_29).1; omega)
          have r_67 := rm_z q_65 hx_61 q_66 tx_63 (rx_63)
          refine h_iast C K hb_1L hb_1k (x_60.toNatClampNeg) (rfl) (ix_0 rx_60 (by decide)) (ix_lt rx_60 (by decide) hb_1n (by decide)) dX12_pass_112 (fun I_68 hI_68 => ?_)
          have hU_69 := iw_mv W9 hU_4.2 (uw_put hU_40 hI_68 (ro_a hb_1k (by decide) hb_1o hkx rfl) (lo := 0) (hi := 379) (bn_834.trans (zq_78 (ix_k (lo := 78) (hi := 83) rx_60 (by decide) (by decide) (by decide)))) (r_67)) hLx hkx hb_1 hI_34 hI_39 (by omega) hI_68 (ix_lt (n := 6) (N := 6) r_20 (by decide) rfl (by decide)) (Or.inr ⟨v_7.toNatClampNeg, (ix_lt (n := 7) (N := 7) rv_7 (by decide) rfl (by decide)), rfl⟩ : cl_ v_10.toNatClampNeg (33 + 6 * v_7.toNatClampNeg + v_10.toNatClampNeg)) (Or.inl rfl : cl_ v_10.toNatClampNeg (6 + v_10.toNatClampNeg)) (show x_33.toNatClampNeg = 72 + (33 + 6 * v_7.toNatClampNeg + v_10.toNatClampNeg) from by rw [nx_a tx_33 rx_32 r_20 (by decide), nx_a tx_32 rc_105 rx_31 (by decide), nx_m (k := 6) tx_31 rv_7 (by decide)]; show 105 + 6 * _ + _ = _; omega) (show x_60.toNatClampNeg = 72 + (6 + v_10.toNatClampNeg) from by rw [nx_a tx_60 rc_78 r_20 (by decide)]; show 78 + _ = _; omega) x_62.toInt q_66 (by rw [hx_61]; exact tx_63)
          have hF_70 := fq_puta hF_41 hI_68 (ro_a hb_1k (by decide) hb_1o hkx rfl) (by decide) (by decide)
          obtain ⟨x_71, hx_71, rx_71, tx_71⟩ := ex_add (y := 1) 1 6 r_20 rc_1 (by decide) (by decide) (by decide) (by decide)
          refine g_iinc C dX12_pass_113 (k := 6) (v := x_71) rfl hx_71 (by decide) (lo2 := [(4, .int x_71), (3, .int x_30), (6, .int x_25), (5, .int x_21), (0, .ref x), (1, .int v_7), (2, .int v_8)]) rfl ?_
          refine g_goto C (tgt := 20) dX12_pass_116 (by decide) ?_
          refine g_lo (is := [4, 5, 6, 1, 0]) (lo2 := [(0, .ref x), (1, .int v_7), (2, .int v_8), (3, .int x_30), (4, .int x_71)]) rfl ?_
          exact ih_20 I_68 J_3 hU_69 hF_70 hG_6 v_7 (rv_7) v_8 (rg_w r_59 (by decide) (by decide)) x_30 (rx_30) x_71 (rg_w rx_71 (by decide) (by decide)) (hd_u (r := 0) W9 hLx hkx (hd_u (r := 0) W9 hLx hkx (hd_u (r := 0) W9 hLx hkx hd_11 hI_34 (Or.inr (Or.inr (ix_ge rx_33 (by decide))))) hI_39 (Or.inr (Or.inr (by decide)))) hI_68 (Or.inr (Or.inr (ix_ge rx_60 (by decide))))) (ms_1 hm_12 (ti_k tx_71 rc_1) (by decide))
  refine g_aload_n C 0 dX12_pass_0 rfl rfl ?_
  refine g_iload_n C 1 dX12_pass_1 rfl rfl ?_
  refine g_aload_n C 0 dX12_pass_2 rfl rfl ?_
  refine g_callVI C K (c_X12_outs W9 hLx hkx   hU) hLx hkx (by decide) rfl v_12_259 rfl ⟨rfl, rfl⟩ ⟨Nat.le_of_ble_eq_true rfl, Nat.le_of_ble_eq_true rfl⟩ (Nat.le_of_ble_eq_true rfl) ⟨Nat.le_of_ble_eq_true rfl, Nat.le_of_ble_eq_true rfl⟩ dX12_pass_3 rfl (st := [.int a0, .ref x]) (fun x_72 I_73 J_74 h_75 => ?_)
  obtain ⟨rfl, rfl, rx_72⟩ := h_75
  refine g_callVI C K (c_X12_heirBy W9 hLx hkx a0 x_72 (ra0) hU) hLx hkx (by decide) rfl v_12_262 rfl ⟨rfl, rfl⟩ ⟨Nat.le_of_ble_eq_true rfl, Nat.le_of_ble_eq_true rfl⟩ (Nat.le_of_ble_eq_true rfl) ⟨Nat.le_of_ble_eq_true rfl, Nat.le_of_ble_eq_true rfl⟩ dX12_pass_6 rfl (st := []) (fun x_76 I_77 J_78 h_79 => ?_)
  obtain ⟨rfl, rfl, rx_76⟩ := h_79
  refine g_istore_n C dX12_pass_9 rfl (by decide) (lo2 := [(2, .int x_76), (0, .ref x), (1, .int a0)]) rfl ?_
  refine g_aload_n C 1 dX12_pass_10 rfl rfl ?_
  refine g_getR C K hLx hkx f_12_13 hb_1 dX12_pass_11 ?_
  refine g_iconst C (v := 3) dX12_pass_14 (by decide) ?_
  obtain ⟨x_80, hx_80, rx_80⟩ := ex_getw (I := I) (a := b_1) (j := 3) (lo := 0) (hi := 9) hU.1 hb_1L (ro_a hb_1k (by decide) hb_1o hkx rfl) (by decide)
  refine h_iald C K hb_1L hb_1k (v := x_80) (3) (by decide) (by decide) (by rw [hb_1n]; decide) hx_80 dX12_pass_15 ?_
  refine g_istore_n C dX12_pass_16 rfl (by decide) (lo2 := [(3, .int x_80), (2, .int x_76), (0, .ref x), (1, .int a0)]) rfl ?_
  refine g_iconst C (v := 0) dX12_pass_17 (by decide) ?_
  refine g_istore C dX12_pass_18 (by decide) (lo2 := [(4, .int 0), (3, .int x_80), (2, .int x_76), (0, .ref x), (1, .int a0)]) rfl ?_
  refine g_lo (is := [3, 4, 2, 1, 0]) (lo2 := [(0, .ref x), (1, .int a0), (2, .int x_76), (3, .int x_80), (4, .int 0)]) rfl ?_
  exact l_20 7 I J hU hF hG a0 (ra0) x_76 (rx_76) x_80 (rx_80) 0 (rg_w rc_0 (by decide) (by decide)) hd_rf (ms_s (a := 0) (b := 6) (N := 7) (rg_w rc_0 (by decide) (by decide)) (by decide))
set_option maxRecDepth 100000 in
set_option maxHeartbeats 8000000 in
theorem c_X12_live {l : Launch} {D : va_G} {cy : Nat → ClassId} {L : List Nat} {κ ln : Nat → Nat} {R : Nat → Nat → Option Nat} {I : Nat → Nat → Int32} {J : Nat → Nat → Int64} {ow : Nat → Nat × Nat} (W9 : ∀ a ∈ L, Shp L κ ln R ow a) {x : Nat} (hLx : x ∈ L) (hkx : κ x = 12) (a0 : Int32) (a1 : Int32) (a2 : Int32) (a3 : Int32) (ra0 : Rg 0 5 a0) (ra1 : Rg 0 6 a1) (ra2 : Rg 0 5 a2) (ra3 : Rg 0 40 a3) (hU : Iw L κ R ow I) (hl : (∀ a, R x 14 = some a → (a0 = 0 → Ea_ (I a) a1.toNatClampNeg a2.toNatClampNeg a3) ∧ (a0 = 1 → a3.toInt ≤ (I a (78 + a2.toNatClampNeg)).toInt))) : CtV l yX12_live cX12_live 5 none { frames := 4, cells := 0, slots := 0, locals := 96 } D cy L κ ln R I J [.ref x, .int a0, .int a1, .int a2, .int a3] (fun I2 J2 => Iw L κ R ow I2 ∧ Fq L κ ow [83400] I I2 ∧ Fq L κ ow [] J J2 ∧ (Hd_ R x I I2)) := by
  refine CtV.of (by decide +kernel) (Nat.le_of_ble_eq_true rfl) ?_
  intro p e s m below meth c B K
  have C := B.1
  have hF : Fq L κ ow [83400] I I := fq_rf
  have hG : Fq L κ ow [] J J := fq_rf
  obtain ⟨b_1, hb_1, hb_1L, hb_1k, hb_1n, hb_1o⟩ := shp_a (W9 x hLx) hkx 14 14 389 rfl (by decide)
  refine g_lo (is := [0, 1, 2, 3, 4]) (lo2 := [(0, .ref x), (1, .int a0), (2, .int a1), (3, .int a2), (4, .int a3)]) rfl ?_
  refine g_iload_n C 1 dX12_live_0 rfl rfl ?_
  by_cases c_2 : a0.toInt = 0
  · skip
    have r_3 := rg_of (a := 0) (b := 0) 0 c_2 (by decide) (by decide)
    refine g_tableIn C (tgt := 36) dX12_live_1 (by omega) (by omega) (off := 35) (by rw [c_2]; rfl) (by decide) ?_
    refine g_aload_n C 0 dX12_live_36 rfl rfl ?_
    refine g_iload_n C 2 dX12_live_37 rfl rfl ?_
    refine g_iload_n C 3 dX12_live_38 rfl rfl ?_
    refine g_iload C 4 dX12_live_39 rfl ?_
    refine g_callVV C K (c_X12_doEat W9 hLx hkx a1 a2 a3 (ra1) (ra2) (ra3) hU  (fun a ha => (hl a ha).1 (rg_1k r_3 rc_0))) hLx hkx (by decide) rfl v_12_271 rfl ⟨rfl, rfl⟩ ⟨Nat.le_of_ble_eq_true rfl, Nat.le_of_ble_eq_true rfl⟩ (Nat.le_of_ble_eq_true rfl) ⟨Nat.le_of_ble_eq_true rfl, Nat.le_of_ble_eq_true rfl⟩ dX12_live_41 rfl (st := []) (fun I_5 J_6 h_7 => ?_)
    obtain ⟨hUI_5, hFI_5, hGJ_6, ex_4⟩ := h_7
    have hF_8 := fq_tr hF hFI_5 (by decide)
    have hG_9 := fq_tr hG hGJ_6 (by decide)
    exact g_vret B K rfl ⟨hUI_5, hF_8, hG_9, (hd_t hd_rf ex_4)⟩ dX12_live_44
  by_cases c_10 : a0.toInt = 1
  · skip
    have r_11 := rg_of (a := 1) (b := 1) 1 c_10 (by decide) (by decide)
    refine g_tableIn C (tgt := 45) dX12_live_1 (by omega) (by omega) (off := 44) (by rw [c_10]; rfl) (by decide) ?_
    refine g_aload_n C 0 dX12_live_45 rfl rfl ?_
    refine g_getR C K hLx hkx f_12_13 hb_1 dX12_live_46 ?_
    refine g_bipush C (v := 78) dX12_live_49 (by decide) ?_
    refine g_iload_n C 3 dX12_live_51 rfl rfl ?_
    obtain ⟨x_12, hx_12, rx_12, tx_12⟩ := ex_add 78 83 rc_78 ra2 (by decide) (by decide) (by decide) (by decide)
    refine g_iadd C (v := x_12) dX12_live_52 hx_12 ?_
    refine g_dup2 C dX12_live_53 rfl rfl ?_
    obtain ⟨x_13, hx_13, rx_13⟩ := ex_getw (I := I) (a := b_1) (j := x_12.toNatClampNeg) (lo := 0) (hi := 379) hU.1 hb_1L (ro_a hb_1k (by decide) hb_1o hkx rfl) (bn_834.trans (zq_78 (ix_k (lo := 78) (hi := 83) rx_12 (by decide) (by decide) (by decide))))
    refine h_iald C K hb_1L hb_1k (v := x_13) (x_12.toNatClampNeg) (rfl) (ix_0 rx_12 (by decide)) (ix_lt rx_12 (by decide) hb_1n (by decide)) hx_13 dX12_live_54 ?_
    refine g_iload C 4 dX12_live_55 rfl ?_
    obtain ⟨x_14, hx_14, rx_14, tx_14⟩ := ex_suble 379 rx_13 ra3 ((Int32.le_iff_toInt_le.mpr (by rw [← hx_13, (show x_12.toNatClampNeg = 78 + a2.toNatClampNeg from by rw [nx_a tx_12 rc_78 ra2 (by decide)]; rfl)]; exact (hl _ hb_1).2 (rg_1k r_11 rc_1)))) (by decide) (by decide)
    refine g_isub C (v := x_14) dX12_live_57 hx_14 ?_
    refine h_iast C K hb_1L hb_1k (x_12.toNatClampNeg) (rfl) (ix_0 rx_12 (by decide)) (ix_lt rx_12 (by decide) hb_1n (by decide)) dX12_live_58 (fun I_15 hI_15 => ?_)
    have hU_16 := uw_put hU.1 hI_15 (ro_a hb_1k (by decide) hb_1o hkx rfl) (lo := 0) (hi := 379) (bn_834.trans (zq_78 (ix_k (lo := 78) (hi := 83) rx_12 (by decide) (by decide) (by decide)))) (rx_14)
    have hF_17 := fq_puta hF hI_15 (ro_a hb_1k (by decide) hb_1o hkx rfl) (by decide) (by decide)
    refine g_aload_n C 0 dX12_live_59 rfl rfl ?_
    refine g_getR C K hLx hkx f_12_13 hb_1 dX12_live_60 ?_
    refine g_bipush C (v := 105) dX12_live_63 (by decide) ?_
    refine g_bipush C (v := 6) dX12_live_65 (by decide) ?_
    refine g_iload_n C 2 dX12_live_67 rfl rfl ?_
    obtain ⟨x_18, hx_18, rx_18, tx_18⟩ := ex_mulT 0 36 rc_6 ra1 (by decide) (by decide) (by decide) (by decide) (by decide)
    refine g_imul C (v := x_18) dX12_live_68 hx_18 ?_
    obtain ⟨x_19, hx_19, rx_19, tx_19⟩ := ex_add 105 141 rc_105 rx_18 (by decide) (by decide) (by decide) (by decide)
    refine g_iadd C (v := x_19) dX12_live_69 hx_19 ?_
    refine g_iload_n C 3 dX12_live_70 rfl rfl ?_
    obtain ⟨x_20, hx_20, rx_20, tx_20⟩ := ex_add 105 146 rx_19 ra2 (by decide) (by decide) (by decide) (by decide)
    refine g_iadd C (v := x_20) dX12_live_71 hx_20 ?_
    refine g_dup2 C dX12_live_72 rfl rfl ?_
    obtain ⟨x_21, hx_21, rx_21⟩ := ex_getw (I := I_15) (a := b_1) (j := x_20.toNatClampNeg) (lo := 0) (hi := 379) hU_16 hb_1L (ro_a hb_1k (by decide) hb_1o hkx rfl) (bn_834.trans (zq_105 (ix_k (lo := 105) (hi := 146) rx_20 (by decide) (by decide) (by decide))))
    refine h_iald C K hb_1L hb_1k (v := x_21) (x_20.toNatClampNeg) (rfl) (ix_0 rx_20 (by decide)) (ix_lt rx_20 (by decide) hb_1n (by decide)) hx_21 dX12_live_73 ?_
    refine g_iload C 4 dX12_live_74 rfl ?_
    obtain ⟨x_22, hx_22, rx_22, tx_22⟩ := ex_add 0 419 rx_21 ra3 (by decide) (by decide) (by decide) (by decide)
    refine g_iadd C (v := x_22) dX12_live_76 hx_22 ?_
    have q_23 := rm_mv (I2 := I_15) (v1 := x_14) W9 hU hLx hkx hb_1 hb_1L (ro_a hb_1k (by decide) hb_1o hkx rfl) hI_15 (fun _ _ => rfl) (ix_lt (n := 6) (N := 6) ra2 (by decide) rfl (by decide)) (Or.inl rfl : cl_ a2.toNatClampNeg (6 + a2.toNatClampNeg)) (Or.inr ⟨a1.toNatClampNeg, (ix_lt (n := 7) (N := 7) ra1 (by decide) rfl (by decide)), rfl⟩ : cl_ a2.toNatClampNeg (33 + 6 * a1.toNatClampNeg + a2.toNatClampNeg)) (show x_12.toNatClampNeg = 72 + (6 + a2.toNatClampNeg) from by rw [nx_a tx_12 rc_78 ra2 (by decide)]; show 78 + _ = _; omega) (show x_20.toNatClampNeg = 72 + (33 + 6 * a1.toNatClampNeg + a2.toNatClampNeg) from by rw [nx_a tx_20 rx_19 ra2 (by decide), nx_a tx_19 rc_105 rx_18 (by decide), nx_m (k := 6) tx_18 ra1 (by decide)]; show 105 + 6 * _ + _ = _; omega) (by have := (rx_14).1; omega)
    have q_24 := (show a3.toInt ≤ (I b_1 x_12.toNatClampNeg).toInt - x_14.toInt from by rw [hx_13, tx_14]; omega)
    have r_25 := rm_z q_23 hx_21 q_24 tx_22 (rx_22)
    refine h_iast C K hb_1L hb_1k (x_20.toNatClampNeg) (rfl) (ix_0 rx_20 (by decide)) (ix_lt rx_20 (by decide) hb_1n (by decide)) dX12_live_77 (fun I_26 hI_26 => ?_)
    have hU_27 := iw_mv2 W9 hU.2 (uw_put hU_16 hI_26 (ro_a hb_1k (by decide) hb_1o hkx rfl) (lo := 0) (hi := 379) (bn_834.trans (zq_105 (ix_k (lo := 105) (hi := 146) rx_20 (by decide) (by decide) (by decide)))) (r_25)) hLx hkx hb_1 hI_15 hI_26 (ix_lt (n := 6) (N := 6) ra2 (by decide) rfl (by decide)) (Or.inl rfl : cl_ a2.toNatClampNeg (6 + a2.toNatClampNeg)) (Or.inr ⟨a1.toNatClampNeg, (ix_lt (n := 7) (N := 7) ra1 (by decide) rfl (by decide)), rfl⟩ : cl_ a2.toNatClampNeg (33 + 6 * a1.toNatClampNeg + a2.toNatClampNeg)) (show x_12.toNatClampNeg = 72 + (6 + a2.toNatClampNeg) from by rw [nx_a tx_12 rc_78 ra2 (by decide)]; show 78 + _ = _; omega) (show x_20.toNatClampNeg = 72 + (33 + 6 * a1.toNatClampNeg + a2.toNatClampNeg) from by rw [nx_a tx_20 rx_19 ra2 (by decide), nx_a tx_19 rc_105 rx_18 (by decide), nx_m (k := 6) tx_18 ra1 (by decide)]; show 105 + 6 * _ + _ = _; omega) a3.toInt q_24 (by rw [hx_21]; exact tx_22)
    have hF_28 := fq_puta hF_17 hI_26 (ro_a hb_1k (by decide) hb_1o hkx rfl) (by decide) (by decide)
    exact g_vret B K rfl ⟨hU_27, hF_28, hG, (hd_u (r := 0) W9 hLx hkx (hd_u (r := 0) W9 hLx hkx hd_rf hI_15 (Or.inr (Or.inr (ix_ge rx_12 (by decide))))) hI_26 (Or.inr (Or.inr (ix_ge rx_20 (by decide)))))⟩ dX12_live_78
  by_cases c_29 : a0.toInt = 2
  · skip
    have r_30 := rg_of (a := 2) (b := 2) 2 c_29 (by decide) (by decide)
    refine g_tableIn C (tgt := 79) dX12_live_1 (by omega) (by omega) (off := 78) (by rw [c_29]; rfl) (by decide) ?_
    refine g_aload_n C 0 dX12_live_79 rfl rfl ?_
    refine g_iload_n C 2 dX12_live_80 rfl rfl ?_
    refine g_callVV C K (c_X12_pass W9 hLx hkx a1 (ra1) hU) hLx hkx (by decide) rfl v_12_275 rfl ⟨rfl, rfl⟩ ⟨Nat.le_of_ble_eq_true rfl, Nat.le_of_ble_eq_true rfl⟩ (Nat.le_of_ble_eq_true rfl) ⟨Nat.le_of_ble_eq_true rfl, Nat.le_of_ble_eq_true rfl⟩ dX12_live_81 rfl (st := []) (fun I_32 J_33 h_34 => ?_)
    obtain ⟨hUI_32, hFI_32, hGJ_33, ex_31⟩ := h_34
    have hF_35 := fq_tr hF hFI_32 (by decide)
    have hG_36 := fq_tr hG hGJ_33 (by decide)
    exact g_vret B K rfl ⟨hUI_32, hF_35, hG_36, (hd_t hd_rf ex_31)⟩ dX12_live_84
  by_cases c_37 : a0.toInt = 3
  · skip
    have r_38 := rg_of (a := 3) (b := 3) 3 c_37 (by decide) (by decide)
    refine g_tableIn C (tgt := 85) dX12_live_1 (by omega) (by omega) (off := 84) (by rw [c_37]; rfl) (by decide) ?_
    refine g_aload_n C 0 dX12_live_85 rfl rfl ?_
    refine g_getR C K hLx hkx f_12_13 hb_1 dX12_live_86 ?_
    refine g_bipush C (v := 74) dX12_live_89 (by decide) ?_
    refine g_dup2 C dX12_live_91 rfl rfl ?_
    obtain ⟨x_39, hx_39, rx_39⟩ := ex_any (z0 := I b_1 (74))
    refine h_iald C K hb_1L hb_1k (v := x_39) (74) (by decide) (by decide) (by rw [hb_1n]; decide) hx_39 dX12_live_92 ?_
    refine g_iconst C (v := 1) dX12_live_93 (by decide) ?_
    refine g_iload_n C 2 dX12_live_94 rfl rfl ?_
    obtain ⟨x_40, hx_40, rx_40⟩ := ex_shl (x := 1) (y := a1) 6 64 rfl (ra1) (by decide)
    refine g_ishl C (v := x_40) dX12_live_95 hx_40 ?_
    obtain ⟨x_41, hx_41, rx_41⟩ := ex_any (z0 := x_39 ^^^ x_40)
    refine g_ixor C (v := x_41) dX12_live_96 hx_41 ?_
    refine h_iast C K hb_1L hb_1k (74) (by decide) (by decide) (by rw [hb_1n]; decide) dX12_live_97 (fun I_42 hI_42 => ?_)
    have hU_43 := iw_free W9 hU (uw_put hU.1 hI_42 (ro_a hb_1k (by decide) hb_1o hkx rfl) (lo := (-2147483648)) (hi := 2147483647) (by decide) (rx_41)) hLx hkx hb_1 hI_42 (by omega)
    have hF_44 := fq_puta hF hI_42 (ro_a hb_1k (by decide) hb_1o hkx rfl) (by decide) (by decide)
    exact g_vret B K rfl ⟨hU_43, hF_44, hG, (hd_u (r := 0) W9 hLx hkx hd_rf hI_42 (Or.inr (Or.inr (by decide))))⟩ dX12_live_98
  by_cases c_45 : a0.toInt = 4
  · skip
    have r_46 := rg_of (a := 4) (b := 4) 4 c_45 (by decide) (by decide)
    refine g_tableIn C (tgt := 85) dX12_live_1 (by omega) (by omega) (off := 84) (by rw [c_45]; rfl) (by decide) ?_
    refine g_aload_n C 0 dX12_live_85 rfl rfl ?_
    refine g_getR C K hLx hkx f_12_13 hb_1 dX12_live_86 ?_
    refine g_bipush C (v := 74) dX12_live_89 (by decide) ?_
    refine g_dup2 C dX12_live_91 rfl rfl ?_
    obtain ⟨x_47, hx_47, rx_47⟩ := ex_any (z0 := I b_1 (74))
    refine h_iald C K hb_1L hb_1k (v := x_47) (74) (by decide) (by decide) (by rw [hb_1n]; decide) hx_47 dX12_live_92 ?_
    refine g_iconst C (v := 1) dX12_live_93 (by decide) ?_
    refine g_iload_n C 2 dX12_live_94 rfl rfl ?_
    obtain ⟨x_48, hx_48, rx_48⟩ := ex_shl (x := 1) (y := a1) 6 64 rfl (ra1) (by decide)
    refine g_ishl C (v := x_48) dX12_live_95 hx_48 ?_
    obtain ⟨x_49, hx_49, rx_49⟩ := ex_any (z0 := x_47 ^^^ x_48)
    refine g_ixor C (v := x_49) dX12_live_96 hx_49 ?_
    refine h_iast C K hb_1L hb_1k (74) (by decide) (by decide) (by rw [hb_1n]; decide) dX12_live_97 (fun I_50 hI_50 => ?_)
    have hU_51 := iw_free W9 hU (uw_put hU.1 hI_50 (ro_a hb_1k (by decide) hb_1o hkx rfl) (lo := (-2147483648)) (hi := 2147483647) (by decide) (rx_49)) hLx hkx hb_1 hI_50 (by omega)
    have hF_52 := fq_puta hF hI_50 (ro_a hb_1k (by decide) hb_1o hkx rfl) (by decide) (by decide)
    exact g_vret B K rfl ⟨hU_51, hF_52, hG, (hd_u (r := 0) W9 hLx hkx hd_rf hI_50 (Or.inr (Or.inr (by decide))))⟩ dX12_live_98
  have n_54 : ¬ a0 = 0 := (fun q => c_2 (by rw [q]; decide))
  have r_55 := ne_lo (lo := 1) n_54 ra0 rc_0 rfl (by decide)
  have n_56 : ¬ a0 = 1 := (fun q => c_10 (by rw [q]; decide))
  have r_57 := ne_lo (lo := 2) n_56 r_55 rc_1 rfl (by decide)
  have n_58 : ¬ a0 = 2 := (fun q => c_29 (by rw [q]; decide))
  have r_59 := ne_lo (lo := 3) n_58 r_57 rc_2 rfl (by decide)
  have n_60 : ¬ a0 = 3 := (fun q => c_37 (by rw [q]; decide))
  have r_61 := ne_lo (lo := 4) n_60 r_59 rc_3 rfl (by decide)
  have n_62 : ¬ a0 = 4 := (fun q => c_45 (by rw [q]; decide))
  have r_63 := ne_lo (lo := 5) n_62 r_61 rc_4 rfl (by decide)
  obtain ⟨q_531, q_532⟩ := id (r_63)
  refine g_tableOut C (tgt := 99) dX12_live_1 (by omega) (by decide) ?_
  refine g_aload_n C 0 dX12_live_99 rfl rfl ?_
  refine g_getR C K hLx hkx f_12_13 hb_1 dX12_live_100 ?_
  refine g_bipush C (v := 73) dX12_live_103 (by decide) ?_
  refine g_dup2 C dX12_live_105 rfl rfl ?_
  obtain ⟨x_64, hx_64, rx_64⟩ := ex_any (z0 := I b_1 (73))
  refine h_iald C K hb_1L hb_1k (v := x_64) (73) (by decide) (by decide) (by rw [hb_1n]; decide) hx_64 dX12_live_106 ?_
  refine g_iconst C (v := 1) dX12_live_107 (by decide) ?_
  refine g_iload_n C 2 dX12_live_108 rfl rfl ?_
  obtain ⟨x_65, hx_65, rx_65⟩ := ex_shl (x := 1) (y := a1) 6 64 rfl (ra1) (by decide)
  refine g_ishl C (v := x_65) dX12_live_109 hx_65 ?_
  obtain ⟨x_66, hx_66, rx_66⟩ := ex_any (z0 := x_64 ||| x_65)
  refine g_ior C (v := x_66) dX12_live_110 hx_66 ?_
  refine h_iast C K hb_1L hb_1k (73) (by decide) (by decide) (by rw [hb_1n]; decide) dX12_live_111 (fun I_67 hI_67 => ?_)
  have hU_68 := iw_free W9 hU (uw_put hU.1 hI_67 (ro_a hb_1k (by decide) hb_1o hkx rfl) (lo := (-2147483648)) (hi := 2147483647) (by decide) (rx_66)) hLx hkx hb_1 hI_67 (by omega)
  have hF_69 := fq_puta hF hI_67 (ro_a hb_1k (by decide) hb_1o hkx rfl) (by decide) (by decide)
  refine g_aload_n C 0 dX12_live_112 rfl rfl ?_
  refine g_iload_n C 2 dX12_live_113 rfl rfl ?_
  refine g_callVI C K (c_X12_plateOf W9 hLx hkx a1 (ra1) hU_68) hLx hkx (by decide) rfl v_12_247 rfl ⟨rfl, rfl⟩ ⟨Nat.le_of_ble_eq_true rfl, Nat.le_of_ble_eq_true rfl⟩ (Nat.le_of_ble_eq_true rfl) ⟨Nat.le_of_ble_eq_true rfl, Nat.le_of_ble_eq_true rfl⟩ dX12_live_114 rfl (st := []) (fun x_70 I_71 J_72 h_73 => ?_)
  obtain ⟨rfl, rfl, rx_70⟩ := h_73
  refine g_if_le C (tgt := 125) dX12_live_117 (by decide) (fun h_74 => ?_) (fun h_74 => ?_)
  · skip
    have r_75 := le_l (h_74) rx_70 rc_0
    exact g_vret B K rfl ⟨hU_68, hF_69, hG, (hd_u (r := 0) W9 hLx hkx hd_rf hI_67 (Or.inr (Or.inr (by decide))))⟩ dX12_live_125
  · skip
    have r_76 := lt_r (lo := 1) (nle h_74) rc_0 rx_70 (by decide)
    refine g_aload_n C 0 dX12_live_120 rfl rfl ?_
    refine g_iload_n C 2 dX12_live_121 rfl rfl ?_
    refine g_callVV C K (c_X12_pass W9 hLx hkx a1 (ra1) hU_68) hLx hkx (by decide) rfl v_12_275 rfl ⟨rfl, rfl⟩ ⟨Nat.le_of_ble_eq_true rfl, Nat.le_of_ble_eq_true rfl⟩ (Nat.le_of_ble_eq_true rfl) ⟨Nat.le_of_ble_eq_true rfl, Nat.le_of_ble_eq_true rfl⟩ dX12_live_122 rfl (st := []) (fun I_78 J_79 h_80 => ?_)
    obtain ⟨hUI_78, hFI_78, hGJ_79, ex_77⟩ := h_80
    have hF_81 := fq_tr hF_69 hFI_78 (by decide)
    have hG_82 := fq_tr hG hGJ_79 (by decide)
    exact g_vret B K rfl ⟨hUI_78, hF_81, hG_82, (hd_t (hd_u (r := 0) W9 hLx hkx hd_rf hI_67 (Or.inr (Or.inr (by decide)))) ex_77)⟩ dX12_live_125
set_option maxRecDepth 100000 in
set_option maxHeartbeats 8000000 in
theorem c_X12_snap {l : Launch} {D : va_G} {cy : Nat → ClassId} {L : List Nat} {κ ln : Nat → Nat} {R : Nat → Nat → Option Nat} {I : Nat → Nat → Int32} {J : Nat → Nat → Int64} {ow : Nat → Nat × Nat} (W9 : ∀ a ∈ L, Shp L κ ln R ow a) {x : Nat} (hLx : x ∈ L) (hkx : κ x = 12) (hU : Iw L κ R ow I) : CtV l yX12_snap cX12_snap 2 none { frames := 0, cells := 0, slots := 0, locals := 0 } D cy L κ ln R I J [.ref x] (fun I2 J2 => Iw L κ R ow I2 ∧ Fq L κ ow [1223, 83700] I I2 ∧ Fq L κ ow [] J J2 ∧ (Hd_ R x I I2)) := by
  refine CtV.of (by decide +kernel) (Nat.le_of_ble_eq_true rfl) ?_
  intro p e s m below meth c B K
  have C := B.1
  have hF : Fq L κ ow [1223, 83700] I I := fq_rf
  have hG : Fq L κ ow [] J J := fq_rf
  obtain ⟨b_1, hb_1, hb_1L, hb_1k, hb_1n, hb_1o⟩ := shp_a (W9 x hLx) hkx 17 14 600 rfl (by decide)
  obtain ⟨b_2, hb_2, hb_2L, hb_2k, hb_2n, hb_2o⟩ := shp_a (W9 x hLx) hkx 14 14 389 rfl (by decide)
  refine g_lo (is := [0]) (lo2 := [(0, .ref x)]) rfl ?_
  have j_49 : ∀ (I_3 : Nat → Nat → Int32) (J_4 : Nat → Nat → Int64) (hU_5 : Iw L κ R ow I_3) (hF_6 : Fq L κ ow [1223, 83700] I I_3) (hG_7 : Fq L κ ow [] J J_4) (v_8 : Int32) (rv_8 : Rg 0 7 v_8) (nv_8_8 : ¬ v_8 = 8) (q_9 : I_3 x 23 = v_8) (hd_10 : Hd_ R x I I_3), WG p l e { frames := 0, cells := 0, slots := 0, locals := 0 } s m ([.ref x] : List Value).toArray below meth c 2 0 0 (MQ below (Qv_ D cy L κ ln R (fun I2 J2 => Iw L κ R ow I2 ∧ Fq L κ ow [1223, 83700] I I2 ∧ Fq L κ ow [] J J2 ∧ (Hd_ R x I I2))) ([.ref x] : List Value).toArray s 0 0 (Al_ L)) D cy (Al_ L) s.heap L κ ln R I_3 J_4 49 [(0, .ref x)] [] := by
    intro I_3 J_4 hU_5 hF_6 hG_7 v_8 rv_8 nv_8_8 q_9 hd_10
    refine g_iconst C (v := 0) dX12_snap_49 (by decide) ?_
    refine g_istore_n C dX12_snap_50 rfl (by decide) (lo2 := [(1, .int 0), (0, .ref x)]) rfl ?_
    refine g_lo (is := [1, 0]) (lo2 := [(0, .ref x), (1, .int 0)]) rfl ?_
    have ex_51 : ∀ (I_12 : Nat → Nat → Int32) (hI_12 : I_12 = cpn_ I_3 b_2 b_1 (72) (75 * v_8.toNatClampNeg) 75) (v_11 : Int32) (rv_11 : Rg 75 75 v_11), WG p l e { frames := 0, cells := 0, slots := 0, locals := 0 } s m ([.ref x] : List Value).toArray below meth c 2 0 0 (MQ below (Qv_ D cy L κ ln R (fun I2 J2 => Iw L κ R ow I2 ∧ Fq L κ ow [1223, 83700] I I2 ∧ Fq L κ ow [] J J2 ∧ (Hd_ R x I I2))) ([.ref x] : List Value).toArray s 0 0 (Al_ L)) D cy (Al_ L) s.heap L κ ln R I_12 J_4 86 [(0, .ref x), (1, .int v_11)] [] := by
      intro I_12 hI_12 v_11 rv_11
      have hF_13 := fq_cpn hF_6 hI_12 (ro_a hb_1k (by decide) hb_1o hkx rfl) (by decide) (by decide)
      have hU_14 := uw_cpn hU_5.1 hb_2L hI_12 (ro_a hb_1k (by decide) hb_1o hkx rfl) (ro_a hb_2k (by decide) hb_2o hkx rfl) (fun i hi => by rw [bn_837, bn_834, show (75 * v_8.toNatClampNeg + i) % 75 = i by omega]; exact ⟨Int.le_refl _, Int.le_refl _⟩)
      refine g_aload_n C 0 dX12_snap_86 rfl rfl ?_
      refine g_dup C dX12_snap_87 rfl ?_
      refine g_getI C K hLx hkx f_12_228 (v := v_8) (kp_cn (κ := κ) hI_12 (by rw [hkx, hb_1k]; decide) q_9) dX12_snap_88 ?_
      refine g_iconst C (v := 1) dX12_snap_91 (by decide) ?_
      obtain ⟨x_15, hx_15, rx_15, tx_15⟩ := ex_add 1 8 rv_8 rc_1 (by decide) (by decide) (by decide) (by decide)
      refine g_iadd C (v := x_15) dX12_snap_92 hx_15 ?_
      refine h_putI C K hLx hkx f_12_228 p_12_23 dX12_snap_93 (fun I_16 hI_16 => ?_)
      have hU_17 := iw_sn W9 hU_5 (uw_put hU_14 hI_16 (ro_o hkx (by decide)) (lo := 0) (hi := 8) (rfl) (rg_w rx_15 (by decide) (by decide))) hLx hkx hb_2 hb_1 hI_12 hI_16 (kp_cn (κ := κ) hI_12 (by rw [hkx, hb_1k]; decide) q_9) (rv_8).1 (ti_k tx_15 rc_1)
      have hF_18 := fq_puto hF_13 hI_16 hkx (by decide) (by decide)
      exact g_vret B K rfl ⟨hU_17, hF_18, hG_7, (hd_u (r := 0) W9 hLx hkx (hd_c (r := 837) W9 hLx hkx hd_10 hI_12 (Or.inl ⟨(ro_a hb_1k (by decide) hb_1o hkx rfl), by decide⟩)) hI_16 (Or.inl (ro_o hkx (by decide))))⟩ dX12_snap_96
    have l_51 : ∀ (m_51 : Nat) (v_19 : Int32) (I_20 : Nat → Nat → Int32), v_19.toInt + (m_51 : Int) = 75 → 0 ≤ v_19.toInt → I_20 = cpn_ I_3 b_2 b_1 (72) (75 * v_8.toNatClampNeg) v_19.toNatClampNeg → WG p l e { frames := 0, cells := 0, slots := 0, locals := 0 } s m ([.ref x] : List Value).toArray below meth c 2 0 0 (MQ below (Qv_ D cy L κ ln R (fun I2 J2 => Iw L κ R ow I2 ∧ Fq L κ ow [1223, 83700] I I2 ∧ Fq L κ ow [] J J2 ∧ (Hd_ R x I I2))) ([.ref x] : List Value).toArray s 0 0 (Al_ L)) D cy (Al_ L) s.heap L κ ln R I_20 J_4 51 [(0, .ref x), (1, .int v_19)] [] := by
      intro m_51
      induction m_51 with
      | zero =>
        intro v_19 I_20 hk_51 h0_51 hI_20
        have rv_19 : Rg 75 75 v_19 := by unfold Rg; omega
        refine g_iload_n C 1 dX12_snap_51 rfl rfl ?_
        refine g_bipush C (v := 75) dX12_snap_52 (by decide) ?_
        refine g_icmp_ge C (tgt := 86) dX12_snap_54 (by decide) (fun h_21 => ?_) (fun h_21 => ?_)
        · skip
          refine g_lo (is := [0, 1]) (lo2 := [(0, .ref x), (1, .int v_19)]) rfl ?_
          exact ex_51 I_20 (hI_20.trans (congrArg (fun q => cpn_ I_3 b_2 b_1 (72) (75 * v_8.toNatClampNeg) q) (show v_19.toNatClampNeg = 75 from by have := ix_n rv_19 (by decide); have := rv_19.1; have := rv_19.2; omega))) v_19 rv_19
        · skip
          have r_22 := lt_l (hi := 74) (nle h_21) rv_19 rc_75 (by decide)
          exact rg_no r_22 (by decide)
      | succ m_51 ih_51 =>
        intro v_19 I_20 hk_51 h0_51 hI_20
        have rv_19 : Rg 0 74 v_19 := by unfold Rg; omega
        refine g_iload_n C 1 dX12_snap_51 rfl rfl ?_
        refine g_bipush C (v := 75) dX12_snap_52 (by decide) ?_
        refine g_icmp_ge C (tgt := 86) dX12_snap_54 (by decide) (fun h_23 => ?_) (fun h_23 => ?_)
        · skip
          have r_24 := le_r (h_23) rc_75 rv_19
          exact rg_no r_24 (by decide)
        · skip
          refine g_aload_n C 0 dX12_snap_57 rfl rfl ?_
          refine g_getR C K hLx hkx f_12_22 hb_1 dX12_snap_58 ?_
          refine g_bipush C (v := 75) dX12_snap_61 (by decide) ?_
          refine g_aload_n C 0 dX12_snap_63 rfl rfl ?_
          refine g_getI C K hLx hkx f_12_228 (v := v_8) (kp_cn (κ := κ) hI_20 (by rw [hkx, hb_1k]; decide) q_9) dX12_snap_64 ?_
          obtain ⟨x_25, hx_25, rx_25, tx_25⟩ := ex_mulT 0 525 rc_75 rv_8 (by decide) (by decide) (by decide) (by decide) (by decide)
          refine g_imul C (v := x_25) dX12_snap_67 hx_25 ?_
          refine g_iload_n C 1 dX12_snap_68 rfl rfl ?_
          obtain ⟨x_26, hx_26, rx_26, tx_26⟩ := ex_add 0 599 rx_25 rv_19 (by decide) (by decide) (by decide) (by decide)
          refine g_iadd C (v := x_26) dX12_snap_69 hx_26 ?_
          refine g_aload_n C 0 dX12_snap_70 rfl rfl ?_
          refine g_getR C K hLx hkx f_12_13 hb_2 dX12_snap_71 ?_
          refine g_bipush C (v := 72) dX12_snap_74 (by decide) ?_
          refine g_iload_n C 1 dX12_snap_76 rfl rfl ?_
          obtain ⟨x_27, hx_27, rx_27, tx_27⟩ := ex_add 72 146 rc_72 rv_19 (by decide) (by decide) (by decide) (by decide)
          refine g_iadd C (v := x_27) dX12_snap_77 hx_27 ?_
          obtain ⟨x_28, hx_28, rx_28⟩ := ex_any (z0 := I_20 b_2 (x_27.toNatClampNeg))
          refine h_iald C K hb_2L hb_2k (v := x_28) (x_27.toNatClampNeg) (rfl) (ix_0 rx_27 (by decide)) (ix_lt rx_27 (by decide) hb_2n (by decide)) hx_28 dX12_snap_78 ?_
          refine h_iast C K hb_1L hb_1k (x_26.toNatClampNeg) (rfl) (ix_0 rx_26 (by decide)) (ix_lt rx_26 (by decide) hb_1n (by decide)) dX12_snap_79 (fun I_29 hI_29 => ?_)
          obtain ⟨x_30, hx_30, rx_30, tx_30⟩ := ex_add (y := 1) 1 75 rv_19 rc_1 (by decide) (by decide) (by decide) (by decide)
          refine g_iinc C dX12_snap_80 (k := 1) (v := x_30) rfl hx_30 (by decide) (lo2 := [(1, .int x_30), (0, .ref x)]) rfl ?_
          refine g_goto C (tgt := 51) dX12_snap_83 (by decide) ?_
          refine g_lo (is := [1, 0]) (lo2 := [(0, .ref x), (1, .int x_30)]) rfl ?_
          have kk_51 : x_30.toNatClampNeg = v_19.toNatClampNeg + 1 := by have q1 := ix_n rv_19 (by decide); have q2 := (ti_k tx_30 rc_1); have q3 : x_30.toNatClampNeg = x_30.toInt.toNat := rfl; omega
          exact ih_51 x_30 I_29 (by have := (ti_k tx_30 rc_1); omega) (by have := (ti_k tx_30 rc_1); omega) (by rw [kk_51]; exact cpn_s hI_20 hx_28 hI_29 (show x_27.toNatClampNeg = (72) + v_19.toNatClampNeg from by rw [nx_a tx_27 rc_72 rv_19 (by decide)]; simp only [show (72 : Int32).toNatClampNeg = 72 from rfl] <;> omega) (show x_26.toNatClampNeg = (75 * v_8.toNatClampNeg) + v_19.toNatClampNeg from by rw [nx_a tx_26 rx_25 rv_19 (by decide), nx_m (k := 75) tx_25 rv_8 (by decide)] <;> omega) (Or.inl (ne_ro (ro_a hb_2k (by decide) hb_2o hkx rfl) (ro_a hb_1k (by decide) hb_1o hkx rfl) (by decide))))
    exact l_51 75 0 I_3 (by decide) (by decide) cpn_0
  refine g_aload_n C 0 dX12_snap_0 rfl rfl ?_
  obtain ⟨x_31, hx_31, rx_31⟩ := ex_getw (I := I) (a := x) (j := 23) (lo := 0) (hi := 8) hU.1 hLx (ro_o hkx (by decide)) rfl
  refine g_getI C K hLx hkx f_12_228 (v := x_31) hx_31 dX12_snap_1 ?_
  refine g_bipush C (v := 8) dX12_snap_4 (by decide) ?_
  refine g_icmp_ne C (tgt := 49) dX12_snap_6 (by decide) (fun h_32 => ?_) (fun h_32 => ?_)
  · skip
    have n_33 : ¬ x_31 = 8 := h_32
    have r_34 := ne_hi (hi := 7) n_33 rx_31 rc_8 rfl (by decide)
    refine g_lo (is := [0]) (lo2 := [(0, .ref x)]) rfl ?_
    exact j_49 I J hU hF hG x_31 (r_34) (n_33) hx_31 hd_rf
  · skip
    have r_35 := (⟨(eq_rg (h_32) rc_8).1, (rx_31).2⟩ : Rg 8 8 x_31)
    refine g_iconst C (v := 0) dX12_snap_9 (by decide) ?_
    refine g_istore_n C dX12_snap_10 rfl (by decide) (lo2 := [(1, .int 0), (0, .ref x)]) rfl ?_
    refine g_lo (is := [1, 0]) (lo2 := [(0, .ref x), (1, .int 0)]) rfl ?_
    have ex_11 : ∀ (I_37 : Nat → Nat → Int32) (hI_37 : I_37 = cpn_ I b_1 b_1 (75) (0) 525) (v_36 : Int32) (rv_36 : Rg 525 525 v_36), WG p l e { frames := 0, cells := 0, slots := 0, locals := 0 } s m ([.ref x] : List Value).toArray below meth c 2 0 0 (MQ below (Qv_ D cy L κ ln R (fun I2 J2 => Iw L κ R ow I2 ∧ Fq L κ ow [1223, 83700] I I2 ∧ Fq L κ ow [] J J2 ∧ (Hd_ R x I I2))) ([.ref x] : List Value).toArray s 0 0 (Al_ L)) D cy (Al_ L) s.heap L κ ln R I_37 J 39 [(0, .ref x), (1, .int v_36)] [] := by
      intro I_37 hI_37 v_36 rv_36
      have hF_38 := fq_cpn hF hI_37 (ro_a hb_1k (by decide) hb_1o hkx rfl) (by decide) (by decide)
      have hU_39 := uw_cpn hU.1 hb_1L hI_37 (ro_a hb_1k (by decide) hb_1o hkx rfl) (ro_a hb_1k (by decide) hb_1o hkx rfl) (fun i _ => by rw [bn_837, bn_837, show (0 + i) % 75 = (75 + i) % 75 by omega]; exact ⟨Int.le_refl _, Int.le_refl _⟩)
      refine g_aload_n C 0 dX12_snap_39 rfl rfl ?_
      refine g_dup C dX12_snap_40 rfl ?_
      refine g_getI C K hLx hkx f_12_228 (v := x_31) (kp_cn (κ := κ) hI_37 (by rw [hkx, hb_1k]; decide) hx_31) dX12_snap_41 ?_
      refine g_iconst C (v := 1) dX12_snap_44 (by decide) ?_
      obtain ⟨x_40, hx_40, rx_40, tx_40⟩ := ex_sub 7 7 r_35 rc_1 (by decide) (by decide) (by decide) (by decide)
      refine g_isub C (v := x_40) dX12_snap_45 hx_40 ?_
      refine h_putI C K hLx hkx f_12_228 p_12_23 dX12_snap_46 (fun I_41 hI_41 => ?_)
      have hU_42 := iw_sh W9 hU (uw_put hU_39 hI_41 (ro_o hkx (by decide)) (lo := 0) (hi := 8) (rfl) (rg_w rx_40 (by decide) (by decide))) hLx hkx hb_1 hI_37 hI_41 (by rw [hx_31]; have := (r_35).1; have := (r_35).2; omega) (by have := (rx_40).1; have := (rx_40).2; omega)
      have hF_43 := fq_puto hF_38 hI_41 hkx (by decide) (by decide)
      refine g_lo (is := [0]) (lo2 := [(0, .ref x)]) rfl ?_
      exact j_49 I_41 J hU_42 hF_43 hG x_40 (rg_w rx_40 (by decide) (by decide)) (rg_nek rx_40 rc_8 (by decide)) (kp_s hI_41) (hd_u (r := 0) W9 hLx hkx (hd_c (r := 837) W9 hLx hkx hd_rf hI_37 (Or.inl ⟨(ro_a hb_1k (by decide) hb_1o hkx rfl), by decide⟩)) hI_41 (Or.inl (ro_o hkx (by decide))))
    have l_11 : ∀ (m_11 : Nat) (v_44 : Int32) (I_45 : Nat → Nat → Int32), v_44.toInt + (m_11 : Int) = 525 → 0 ≤ v_44.toInt → I_45 = cpn_ I b_1 b_1 (75) (0) v_44.toNatClampNeg → WG p l e { frames := 0, cells := 0, slots := 0, locals := 0 } s m ([.ref x] : List Value).toArray below meth c 2 0 0 (MQ below (Qv_ D cy L κ ln R (fun I2 J2 => Iw L κ R ow I2 ∧ Fq L κ ow [1223, 83700] I I2 ∧ Fq L κ ow [] J J2 ∧ (Hd_ R x I I2))) ([.ref x] : List Value).toArray s 0 0 (Al_ L)) D cy (Al_ L) s.heap L κ ln R I_45 J 11 [(0, .ref x), (1, .int v_44)] [] := by
      intro m_11
      induction m_11 with
      | zero =>
        intro v_44 I_45 hk_11 h0_11 hI_45
        have rv_44 : Rg 525 525 v_44 := by unfold Rg; omega
        refine g_iload_n C 1 dX12_snap_11 rfl rfl ?_
        refine g_sipush C (v := 525) dX12_snap_12 (by decide) ?_
        refine g_icmp_ge C (tgt := 39) dX12_snap_15 (by decide) (fun h_46 => ?_) (fun h_46 => ?_)
        · skip
          refine g_lo (is := [0, 1]) (lo2 := [(0, .ref x), (1, .int v_44)]) rfl ?_
          exact ex_11 I_45 (hI_45.trans (congrArg (fun q => cpn_ I b_1 b_1 (75) (0) q) (show v_44.toNatClampNeg = 525 from by have := ix_n rv_44 (by decide); have := rv_44.1; have := rv_44.2; omega))) v_44 rv_44
        · skip
          have r_47 := lt_l (hi := 524) (nle h_46) rv_44 rc_525 (by decide)
          exact rg_no r_47 (by decide)
      | succ m_11 ih_11 =>
        intro v_44 I_45 hk_11 h0_11 hI_45
        have rv_44 : Rg 0 524 v_44 := by unfold Rg; omega
        refine g_iload_n C 1 dX12_snap_11 rfl rfl ?_
        refine g_sipush C (v := 525) dX12_snap_12 (by decide) ?_
        refine g_icmp_ge C (tgt := 39) dX12_snap_15 (by decide) (fun h_48 => ?_) (fun h_48 => ?_)
        · skip
          have r_49 := le_r (h_48) rc_525 rv_44
          exact rg_no r_49 (by decide)
        · skip
          refine g_aload_n C 0 dX12_snap_18 rfl rfl ?_
          refine g_getR C K hLx hkx f_12_22 hb_1 dX12_snap_19 ?_
          refine g_iload_n C 1 dX12_snap_22 rfl rfl ?_
          refine g_aload_n C 0 dX12_snap_23 rfl rfl ?_
          refine g_getR C K hLx hkx f_12_22 hb_1 dX12_snap_24 ?_
          refine g_iload_n C 1 dX12_snap_27 rfl rfl ?_
          refine g_bipush C (v := 75) dX12_snap_28 (by decide) ?_
          obtain ⟨x_50, hx_50, rx_50, tx_50⟩ := ex_add 75 599 rv_44 rc_75 (by decide) (by decide) (by decide) (by decide)
          refine g_iadd C (v := x_50) dX12_snap_30 hx_50 ?_
          obtain ⟨x_51, hx_51, rx_51⟩ := ex_any (z0 := I_45 b_1 (x_50.toNatClampNeg))
          refine h_iald C K hb_1L hb_1k (v := x_51) (x_50.toNatClampNeg) (rfl) (ix_0 rx_50 (by decide)) (ix_lt rx_50 (by decide) hb_1n (by decide)) hx_51 dX12_snap_31 ?_
          refine h_iast C K hb_1L hb_1k (v_44.toNatClampNeg) (rfl) (ix_0 rv_44 (by decide)) (ix_lt rv_44 (by decide) hb_1n (by decide)) dX12_snap_32 (fun I_52 hI_52 => ?_)
          obtain ⟨x_53, hx_53, rx_53, tx_53⟩ := ex_add (y := 1) 1 525 rv_44 rc_1 (by decide) (by decide) (by decide) (by decide)
          refine g_iinc C dX12_snap_33 (k := 1) (v := x_53) rfl hx_53 (by decide) (lo2 := [(1, .int x_53), (0, .ref x)]) rfl ?_
          refine g_goto C (tgt := 11) dX12_snap_36 (by decide) ?_
          refine g_lo (is := [1, 0]) (lo2 := [(0, .ref x), (1, .int x_53)]) rfl ?_
          have kk_11 : x_53.toNatClampNeg = v_44.toNatClampNeg + 1 := by have q1 := ix_n rv_44 (by decide); have q2 := (ti_k tx_53 rc_1); have q3 : x_53.toNatClampNeg = x_53.toInt.toNat := rfl; omega
          exact ih_11 x_53 I_52 (by have := (ti_k tx_53 rc_1); omega) (by have := (ti_k tx_53 rc_1); omega) (by rw [kk_11]; exact cpn_s hI_45 hx_51 hI_52 (show x_50.toNatClampNeg = (75) + v_44.toNatClampNeg from by rw [nx_a tx_50 rv_44 rc_75 (by decide)]; simp only [show (75 : Int32).toNatClampNeg = 75 from rfl] <;> omega) (show v_44.toNatClampNeg = (0) + v_44.toNatClampNeg from by omega) (Or.inr (Or.inl (by omega))))
    exact l_11 525 0 I (by decide) (by decide) cpn_0
set_option maxRecDepth 100000 in
set_option maxHeartbeats 8000000 in
theorem c_X12_why {l : Launch} {D : va_G} {cy : Nat → ClassId} {L : List Nat} {κ ln : Nat → Nat} {R : Nat → Nat → Option Nat} {I : Nat → Nat → Int32} {J : Nat → Nat → Int64} {ow : Nat → Nat × Nat} (W9 : ∀ a ∈ L, Shp L κ ln R ow a) {x : Nat} (hLx : x ∈ L) (hkx : κ x = 12) (a0 : Int32) (a1 : Int32) (a2 : Int32) (a3 : Int32) (ra0 : Rg 0 5 a0) (ra1 : Rg 0 6 a1) (ra2 : Rg 0 5 a2) (ra3 : Rg 0 40 a3) (hU : Iw L κ R ow I) : CtI l yX12_why cX12_why 5 (some .int) { frames := 2, cells := 0, slots := 0, locals := 45 } D cy L κ ln R I J [.ref x, .int a0, .int a1, .int a2, .int a3] (fun r I2 J2 => I = I2 ∧ J = J2 ∧ Rg 0 3 r ∧ (r = 0 → (∀ a, R x 14 = some a → (a0 = 0 → Ea_ (I a) a1.toNatClampNeg a2.toNatClampNeg a3) ∧ (a0 = 1 → a3.toInt ≤ (I a (78 + a2.toNatClampNeg)).toInt)))) := by
  refine CtI.of (by decide +kernel) (Nat.le_of_ble_eq_true rfl) ?_
  intro p e s m below meth c B K
  have C := B.1
  obtain ⟨b_1, hb_1, hb_1L, hb_1k, hb_1n, hb_1o⟩ := shp_a (W9 x hLx) hkx 14 14 389 rfl (by decide)
  refine g_lo (is := [0, 1, 2, 3, 4]) (lo2 := [(0, .ref x), (1, .int a0), (2, .int a1), (3, .int a2), (4, .int a3)]) rfl ?_
  refine g_aload_n C 0 dX12_why_0 rfl rfl ?_
  refine g_iload_n C 2 dX12_why_1 rfl rfl ?_
  refine g_callVI C K (c_X12_isDead W9 hLx hkx a1 (ra1) hU) hLx hkx (by decide) rfl v_12_244 rfl ⟨rfl, rfl⟩ ⟨Nat.le_of_ble_eq_true rfl, Nat.le_of_ble_eq_true rfl⟩ (Nat.le_of_ble_eq_true rfl) ⟨Nat.le_of_ble_eq_true rfl, Nat.le_of_ble_eq_true rfl⟩ dX12_why_2 rfl (st := []) (fun x_2 I_3 J_4 h_5 => ?_)
  obtain ⟨rfl, rfl, rx_2⟩ := h_5
  refine g_if_eq C (tgt := 10) dX12_why_5 (by decide) (fun h_6 => ?_) (fun h_6 => ?_)
  · skip
    have r_7 := (⟨(rx_2).1, (eq_rg (h_6) rc_0).2⟩ : Rg 0 0 x_2)
    refine g_iload_n C 1 dX12_why_10 rfl rfl ?_
    by_cases c_8 : a0.toInt = 0
    · skip
      have r_9 := rg_of (a := 0) (b := 0) 0 c_8 (by decide) (by decide)
      refine g_tableIn C (tgt := 44) dX12_why_11 (by omega) (by omega) (off := 33) (by rw [c_8]; rfl) (by decide) ?_
      refine g_aload_n C 0 dX12_why_44 rfl rfl ?_
      refine g_iload_n C 2 dX12_why_45 rfl rfl ?_
      refine g_iload_n C 3 dX12_why_46 rfl rfl ?_
      refine g_callVI C K (c_X12_onPlate W9 hLx hkx a1 a2 (ra1) (ra2) hU) hLx hkx (by decide) rfl v_12_234 rfl ⟨rfl, rfl⟩ ⟨Nat.le_of_ble_eq_true rfl, Nat.le_of_ble_eq_true rfl⟩ (Nat.le_of_ble_eq_true rfl) ⟨Nat.le_of_ble_eq_true rfl, Nat.le_of_ble_eq_true rfl⟩ dX12_why_47 rfl (st := []) (fun x_10 I_11 J_12 h_13 => ?_)
      obtain ⟨rfl, rfl, rx_10, ex_10⟩ := h_13
      refine g_iload C 4 dX12_why_50 rfl ?_
      refine g_icmp_ge C (tgt := 59) dX12_why_52 (by decide) (fun h_14 => ?_) (fun h_14 => ?_)
      · skip
        refine g_iload C 4 dX12_why_59 rfl ?_
        refine g_aload_n C 0 dX12_why_61 rfl rfl ?_
        refine g_iload_n C 2 dX12_why_62 rfl rfl ?_
        refine g_callVI C K (c_X12_wantsYet W9 hLx hkx a1 (ra1) hU) hLx hkx (by decide) rfl v_12_268 rfl ⟨rfl, rfl⟩ ⟨Nat.le_of_ble_eq_true rfl, Nat.le_of_ble_eq_true rfl⟩ (Nat.le_of_ble_eq_true rfl) ⟨Nat.le_of_ble_eq_true rfl, Nat.le_of_ble_eq_true rfl⟩ dX12_why_63 rfl (st := [.int a3]) (fun x_15 I_16 J_17 h_18 => ?_)
        obtain ⟨rfl, rfl, rx_15, ex_15⟩ := h_18
        refine g_icmp_le C (tgt := 73) dX12_why_66 (by decide) (fun h_19 => ?_) (fun h_19 => ?_)
        · skip
          have r_20 := le_l (h_19) ra3 rx_15
          refine g_iconst C (v := 0) dX12_why_73 (by decide) ?_
          exact g_zret (ty := .int) (r := 0) B K rfl (rfl) ⟨rfl, rfl, rg_w rc_0 (by decide) (by decide), (fun _ a ha => ⟨(fun _ => ea_mk (ex_10 a ha) (ex_15 a ha) (h_14) (h_19)), (fun q => absurd q (rg_nek r_9 rc_1 (by decide)))⟩)⟩ dX12_why_74
        · skip
          have r_21 := lt_r (lo := 1) (nle h_19) rx_15 ra3 (by decide)
          refine g_iconst C (v := 3) dX12_why_69 (by decide) ?_
          refine g_goto C (tgt := 74) dX12_why_70 (by decide) ?_
          exact g_zret (ty := .int) (r := 3) B K rfl (rfl) ⟨rfl, rfl, rg_w rc_3 (by decide) (by decide), (fun q => absurd q (by decide))⟩ dX12_why_74
      · skip
        have r_22 := lt_l (hi := 39) (nle h_14) rx_10 ra3 (by decide)
        have r_23 := lt_r (lo := 1) (nle h_14) rx_10 ra3 (by decide)
        refine g_iconst C (v := 2) dX12_why_55 (by decide) ?_
        refine g_goto C (tgt := 74) dX12_why_56 (by decide) ?_
        exact g_zret (ty := .int) (r := 2) B K rfl (rfl) ⟨rfl, rfl, rg_w rc_2 (by decide) (by decide), (fun q => absurd q (by decide))⟩ dX12_why_74
    by_cases c_24 : a0.toInt = 1
    · skip
      have r_25 := rg_of (a := 1) (b := 1) 1 c_24 (by decide) (by decide)
      refine g_tableIn C (tgt := 75) dX12_why_11 (by omega) (by omega) (off := 64) (by rw [c_24]; rfl) (by decide) ?_
      refine g_aload_n C 0 dX12_why_75 rfl rfl ?_
      refine g_getR C K hLx hkx f_12_13 hb_1 dX12_why_76 ?_
      refine g_bipush C (v := 78) dX12_why_79 (by decide) ?_
      refine g_iload_n C 3 dX12_why_81 rfl rfl ?_
      obtain ⟨x_26, hx_26, rx_26, tx_26⟩ := ex_add 78 83 rc_78 ra2 (by decide) (by decide) (by decide) (by decide)
      refine g_iadd C (v := x_26) dX12_why_82 hx_26 ?_
      obtain ⟨x_27, hx_27, rx_27⟩ := ex_getw (I := I) (a := b_1) (j := x_26.toNatClampNeg) (lo := 0) (hi := 379) hU.1 hb_1L (ro_a hb_1k (by decide) hb_1o hkx rfl) (bn_834.trans (zq_78 (ix_k (lo := 78) (hi := 83) rx_26 (by decide) (by decide) (by decide))))
      refine h_iald C K hb_1L hb_1k (v := x_27) (x_26.toNatClampNeg) (rfl) (ix_0 rx_26 (by decide)) (ix_lt rx_26 (by decide) hb_1n (by decide)) hx_27 dX12_why_83 ?_
      refine g_iload C 4 dX12_why_84 rfl ?_
      refine g_icmp_ge C (tgt := 93) dX12_why_86 (by decide) (fun h_28 => ?_) (fun h_28 => ?_)
      · skip
        refine g_iconst C (v := 0) dX12_why_93 (by decide) ?_
        exact g_zret (ty := .int) (r := 0) B K rfl (rfl) ⟨rfl, rfl, rg_w rc_0 (by decide) (by decide), (fun _ a ha => ⟨(fun q => absurd q (rg_nek r_25 rc_0 (by decide))), (fun _ => by rw [hb_1] at ha; cases ha; rw [← (show x_26.toNatClampNeg = 78 + a2.toNatClampNeg from by rw [nx_a tx_26 rc_78 ra2 (by decide)]; rfl), hx_27]; exact Int32.le_iff_toInt_le.mp (h_28))⟩)⟩ dX12_why_94
      · skip
        have r_29 := lt_l (hi := 39) (nle h_28) rx_27 ra3 (by decide)
        have r_30 := lt_r (lo := 1) (nle h_28) rx_27 ra3 (by decide)
        refine g_iconst C (v := 2) dX12_why_89 (by decide) ?_
        refine g_goto C (tgt := 94) dX12_why_90 (by decide) ?_
        exact g_zret (ty := .int) (r := 2) B K rfl (rfl) ⟨rfl, rfl, rg_w rc_2 (by decide) (by decide), (fun q => absurd q (by decide))⟩ dX12_why_94
    by_cases c_31 : a0.toInt = 2
    · skip
      have r_32 := rg_of (a := 2) (b := 2) 2 c_31 (by decide) (by decide)
      refine g_tableIn C (tgt := 95) dX12_why_11 (by omega) (by omega) (off := 84) (by rw [c_31]; rfl) (by decide) ?_
      refine g_aload_n C 0 dX12_why_95 rfl rfl ?_
      refine g_iload_n C 2 dX12_why_96 rfl rfl ?_
      refine g_callVI C K (c_X12_plateOf W9 hLx hkx a1 (ra1) hU) hLx hkx (by decide) rfl v_12_247 rfl ⟨rfl, rfl⟩ ⟨Nat.le_of_ble_eq_true rfl, Nat.le_of_ble_eq_true rfl⟩ (Nat.le_of_ble_eq_true rfl) ⟨Nat.le_of_ble_eq_true rfl, Nat.le_of_ble_eq_true rfl⟩ dX12_why_97 rfl (st := []) (fun x_33 I_34 J_35 h_36 => ?_)
      obtain ⟨rfl, rfl, rx_33⟩ := h_36
      refine g_if_ne C (tgt := 107) dX12_why_100 (by decide) (fun h_37 => ?_) (fun h_37 => ?_)
      · skip
        have n_38 : ¬ x_33 = 0 := h_37
        refine g_iconst C (v := 0) dX12_why_107 (by decide) ?_
        exact g_zret (ty := .int) (r := 0) B K rfl (rfl) ⟨rfl, rfl, rg_w rc_0 (by decide) (by decide), (fun _ a ha => ⟨(fun q => absurd q (rg_nek r_32 rc_0 (by decide))), (fun q => absurd q (rg_nek r_32 rc_1 (by decide)))⟩)⟩ dX12_why_108
      · skip
        have r_39 := (⟨(eq_rg (h_37) rc_0).1, (eq_rg (h_37) rc_0).2⟩ : Rg 0 0 x_33)
        refine g_iconst C (v := 2) dX12_why_103 (by decide) ?_
        refine g_goto C (tgt := 108) dX12_why_104 (by decide) ?_
        exact g_zret (ty := .int) (r := 2) B K rfl (rfl) ⟨rfl, rfl, rg_w rc_2 (by decide) (by decide), (fun q => absurd q (by decide))⟩ dX12_why_108
    by_cases c_40 : a0.toInt = 3
    · skip
      have r_41 := rg_of (a := 3) (b := 3) 3 c_40 (by decide) (by decide)
      refine g_tableIn C (tgt := 109) dX12_why_11 (by omega) (by omega) (off := 98) (by rw [c_40]; rfl) (by decide) ?_
      refine g_aload_n C 0 dX12_why_109 rfl rfl ?_
      refine g_getR C K hLx hkx f_12_13 hb_1 dX12_why_110 ?_
      refine g_bipush C (v := 74) dX12_why_113 (by decide) ?_
      obtain ⟨x_42, hx_42, rx_42⟩ := ex_any (z0 := I b_1 (74))
      refine h_iald C K hb_1L hb_1k (v := x_42) (74) (by decide) (by decide) (by rw [hb_1n]; decide) hx_42 dX12_why_115 ?_
      refine g_iload_n C 2 dX12_why_116 rfl rfl ?_
      refine g_callSI C K (c_X12_has W9 x_42 a1  hU) s_12_231 rfl ⟨rfl, rfl⟩ ⟨Nat.le_of_ble_eq_true rfl, Nat.le_of_ble_eq_true rfl⟩ (Nat.le_of_ble_eq_true rfl) ⟨Nat.le_of_ble_eq_true rfl, Nat.le_of_ble_eq_true rfl⟩ dX12_why_117 rfl (st := []) (fun x_43 I_44 J_45 h_46 => ?_)
      obtain ⟨rfl, rfl, rx_43⟩ := h_46
      refine g_if_eq C (tgt := 127) dX12_why_120 (by decide) (fun h_47 => ?_) (fun h_47 => ?_)
      · skip
        have r_48 := (⟨(rx_43).1, (eq_rg (h_47) rc_0).2⟩ : Rg 0 0 x_43)
        refine g_iconst C (v := 0) dX12_why_127 (by decide) ?_
        exact g_zret (ty := .int) (r := 0) B K rfl (rfl) ⟨rfl, rfl, rg_w rc_0 (by decide) (by decide), (fun _ a ha => ⟨(fun q => absurd q (rg_nek r_41 rc_0 (by decide))), (fun q => absurd q (rg_nek r_41 rc_1 (by decide)))⟩)⟩ dX12_why_128
      · skip
        have n_49 : ¬ x_43 = 0 := h_47
        have r_50 := ne_lo (lo := 1) n_49 rx_43 rc_0 rfl (by decide)
        refine g_iconst C (v := 2) dX12_why_123 (by decide) ?_
        refine g_goto C (tgt := 128) dX12_why_124 (by decide) ?_
        exact g_zret (ty := .int) (r := 2) B K rfl (rfl) ⟨rfl, rfl, rg_w rc_2 (by decide) (by decide), (fun q => absurd q (by decide))⟩ dX12_why_128
    by_cases c_51 : a0.toInt = 4
    · skip
      have r_52 := rg_of (a := 4) (b := 4) 4 c_51 (by decide) (by decide)
      refine g_tableIn C (tgt := 129) dX12_why_11 (by omega) (by omega) (off := 118) (by rw [c_51]; rfl) (by decide) ?_
      refine g_aload_n C 0 dX12_why_129 rfl rfl ?_
      refine g_getR C K hLx hkx f_12_13 hb_1 dX12_why_130 ?_
      refine g_bipush C (v := 74) dX12_why_133 (by decide) ?_
      obtain ⟨x_53, hx_53, rx_53⟩ := ex_any (z0 := I b_1 (74))
      refine h_iald C K hb_1L hb_1k (v := x_53) (74) (by decide) (by decide) (by rw [hb_1n]; decide) hx_53 dX12_why_135 ?_
      refine g_iload_n C 2 dX12_why_136 rfl rfl ?_
      refine g_callSI C K (c_X12_has W9 x_53 a1  hU) s_12_231 rfl ⟨rfl, rfl⟩ ⟨Nat.le_of_ble_eq_true rfl, Nat.le_of_ble_eq_true rfl⟩ (Nat.le_of_ble_eq_true rfl) ⟨Nat.le_of_ble_eq_true rfl, Nat.le_of_ble_eq_true rfl⟩ dX12_why_137 rfl (st := []) (fun x_54 I_55 J_56 h_57 => ?_)
      obtain ⟨rfl, rfl, rx_54⟩ := h_57
      refine g_if_eq C (tgt := 147) dX12_why_140 (by decide) (fun h_58 => ?_) (fun h_58 => ?_)
      · skip
        have r_59 := (⟨(rx_54).1, (eq_rg (h_58) rc_0).2⟩ : Rg 0 0 x_54)
        refine g_iconst C (v := 2) dX12_why_147 (by decide) ?_
        exact g_zret (ty := .int) (r := 2) B K rfl (rfl) ⟨rfl, rfl, rg_w rc_2 (by decide) (by decide), (fun q => absurd q (by decide))⟩ dX12_why_148
      · skip
        have n_60 : ¬ x_54 = 0 := h_58
        have r_61 := ne_lo (lo := 1) n_60 rx_54 rc_0 rfl (by decide)
        refine g_iconst C (v := 0) dX12_why_143 (by decide) ?_
        refine g_goto C (tgt := 148) dX12_why_144 (by decide) ?_
        exact g_zret (ty := .int) (r := 0) B K rfl (rfl) ⟨rfl, rfl, rg_w rc_0 (by decide) (by decide), (fun _ a ha => ⟨(fun q => absurd q (rg_nek r_52 rc_0 (by decide))), (fun q => absurd q (rg_nek r_52 rc_1 (by decide)))⟩)⟩ dX12_why_148
    have n_63 : ¬ a0 = 0 := (fun q => c_8 (by rw [q]; decide))
    have r_64 := ne_lo (lo := 1) n_63 ra0 rc_0 rfl (by decide)
    have n_65 : ¬ a0 = 1 := (fun q => c_24 (by rw [q]; decide))
    have r_66 := ne_lo (lo := 2) n_65 r_64 rc_1 rfl (by decide)
    have n_67 : ¬ a0 = 2 := (fun q => c_31 (by rw [q]; decide))
    have r_68 := ne_lo (lo := 3) n_67 r_66 rc_2 rfl (by decide)
    have n_69 : ¬ a0 = 3 := (fun q => c_40 (by rw [q]; decide))
    have r_70 := ne_lo (lo := 4) n_69 r_68 rc_3 rfl (by decide)
    have n_71 : ¬ a0 = 4 := (fun q => c_51 (by rw [q]; decide))
    have r_72 := ne_lo (lo := 5) n_71 r_70 rc_4 rfl (by decide)
    obtain ⟨q_621, q_622⟩ := id (r_72)
    refine g_tableOut C (tgt := 149) dX12_why_11 (by omega) (by decide) ?_
    refine g_iconst C (v := 0) dX12_why_149 (by decide) ?_
    exact g_zret (ty := .int) (r := 0) B K rfl (rfl) ⟨rfl, rfl, rg_w rc_0 (by decide) (by decide), (fun _ a ha => ⟨(fun q => absurd q (rg_nek r_72 rc_0 (by decide))), (fun q => absurd q (rg_nek r_72 rc_1 (by decide)))⟩)⟩ dX12_why_150
  · skip
    have n_73 : ¬ x_2 = 0 := h_6
    have r_74 := ne_lo (lo := 1) n_73 rx_2 rc_0 rfl (by decide)
    refine g_iconst C (v := 1) dX12_why_8 (by decide) ?_
    exact g_zret (ty := .int) (r := 1) B K rfl (rfl) ⟨rfl, rfl, rg_w rc_1 (by decide) (by decide), (fun q => absurd q (by decide))⟩ dX12_why_9
set_option maxRecDepth 100000 in
set_option maxHeartbeats 8000000 in
theorem c_X12_act {l : Launch} {D : va_G} {cy : Nat → ClassId} {L : List Nat} {κ ln : Nat → Nat} {R : Nat → Nat → Option Nat} {I : Nat → Nat → Int32} {J : Nat → Nat → Int64} {ow : Nat → Nat × Nat} (W9 : ∀ a ∈ L, Shp L κ ln R ow a) {x : Nat} (hLx : x ∈ L) (hkx : κ x = 12) (a0 : Int32) (a1 : Int32) (a2 : Int32) (a3 : Int32) (ra0 : Rg 0 5 a0) (ra1 : Rg 0 6 a1) (ra2 : Rg 0 5 a2) (ra3 : Rg 0 40 a3) (hU : Iw L κ R ow I) : CtI l yX12_act cX12_act 6 (some .int) { frames := 5, cells := 0, slots := 0, locals := 120 } D cy L κ ln R I J [.ref x, .int a0, .int a1, .int a2, .int a3] (fun r I2 J2 => Iw L κ R ow I2 ∧ Fq L κ ow [1223, 83400, 83700] I I2 ∧ Fq L κ ow [] J J2 ∧ Rg 0 3 r) := by
  refine CtI.of (by decide +kernel) (Nat.le_of_ble_eq_true rfl) ?_
  intro p e s m below meth c B K
  have C := B.1
  have hF : Fq L κ ow [1223, 83400, 83700] I I := fq_rf
  have hG : Fq L κ ow [] J J := fq_rf
  obtain ⟨b_1, hb_1, hb_1L, hb_1k, hb_1n, hb_1o⟩ := shp_a (W9 x hLx) hkx 14 14 389 rfl (by decide)
  refine g_lo (is := [0, 1, 2, 3, 4]) (lo2 := [(0, .ref x), (1, .int a0), (2, .int a1), (3, .int a2), (4, .int a3)]) rfl ?_
  refine g_aload_n C 0 dX12_act_0 rfl rfl ?_
  refine g_iload_n C 1 dX12_act_1 rfl rfl ?_
  refine g_iload_n C 2 dX12_act_2 rfl rfl ?_
  refine g_iload_n C 3 dX12_act_3 rfl rfl ?_
  refine g_iload C 4 dX12_act_4 rfl ?_
  refine g_callVI C K (c_X12_why W9 hLx hkx a0 a1 a2 a3 (ra0) (ra1) (ra2) (ra3) hU) hLx hkx (by decide) rfl v_12_278 rfl ⟨rfl, rfl⟩ ⟨Nat.le_of_ble_eq_true rfl, Nat.le_of_ble_eq_true rfl⟩ (Nat.le_of_ble_eq_true rfl) ⟨Nat.le_of_ble_eq_true rfl, Nat.le_of_ble_eq_true rfl⟩ dX12_act_6 rfl (st := []) (fun x_2 I_3 J_4 h_5 => ?_)
  obtain ⟨rfl, rfl, rx_2, ex_2⟩ := h_5
  refine g_istore C dX12_act_9 (by decide) (lo2 := [(5, .int x_2), (0, .ref x), (1, .int a0), (2, .int a1), (3, .int a2), (4, .int a3)]) rfl ?_
  refine g_iload C 0 dX12_act_11 rfl ?_
  refine g_if_eq C (tgt := 19) dX12_act_13 (by decide) (fun h_6 => ?_) (fun h_6 => ?_)
  · skip
    have r_7 := (⟨(rx_2).1, (eq_rg (h_6) rc_0).2⟩ : Rg 0 0 x_2)
    refine g_aload_n C 1 dX12_act_19 rfl rfl ?_
    refine g_callVV C K (c_X12_snap W9 hLx hkx   hU) hLx hkx (by decide) rfl v_12_282 rfl ⟨rfl, rfl⟩ ⟨Nat.le_of_ble_eq_true rfl, Nat.le_of_ble_eq_true rfl⟩ (Nat.le_of_ble_eq_true rfl) ⟨Nat.le_of_ble_eq_true rfl, Nat.le_of_ble_eq_true rfl⟩ dX12_act_20 rfl (st := []) (fun I_9 J_10 h_11 => ?_)
    obtain ⟨hUI_9, hFI_9, hGJ_10, ex_8⟩ := h_11
    have hF_12 := fq_tr hF hFI_9 (by decide)
    have hG_13 := fq_tr hG hGJ_10 (by decide)
    refine g_aload_n C 1 dX12_act_23 rfl rfl ?_
    refine g_iload_n C 2 dX12_act_24 rfl rfl ?_
    refine g_iload_n C 3 dX12_act_25 rfl rfl ?_
    refine g_iload_n C 4 dX12_act_26 rfl rfl ?_
    refine g_iload C 5 dX12_act_27 rfl ?_
    refine g_callVV C K (c_X12_live W9 hLx hkx a0 a1 a2 a3 (ra0) (ra1) (ra2) (ra3) hUI_9  (fun a ha => by rw [hb_1] at ha; cases ha; rw [show I_9 b_1 = _ from funext fun j => fq_ar hFI_9 hb_1L (ro_a hb_1k (by decide) hb_1o hkx rfl) (by decide) (by decide) rfl]; exact (ex_2 (rg_1k r_7 rc_0)) _ hb_1)) hLx hkx (by decide) rfl v_12_285 rfl ⟨rfl, rfl⟩ ⟨Nat.le_of_ble_eq_true rfl, Nat.le_of_ble_eq_true rfl⟩ (Nat.le_of_ble_eq_true rfl) ⟨Nat.le_of_ble_eq_true rfl, Nat.le_of_ble_eq_true rfl⟩ dX12_act_29 rfl (st := []) (fun I_15 J_16 h_17 => ?_)
    obtain ⟨hUI_15, hFI_15, hGJ_16, ex_14⟩ := h_17
    have hF_18 := fq_tr hF_12 hFI_15 (by decide)
    have hG_19 := fq_tr hG_13 hGJ_16 (by decide)
    refine g_iconst C (v := 0) dX12_act_32 (by decide) ?_
    exact g_zret (ty := .int) (r := 0) B K rfl (rfl) ⟨hUI_15, hF_18, hG_19, rg_w rc_0 (by decide) (by decide)⟩ dX12_act_33
  · skip
    have n_20 : ¬ x_2 = 0 := h_6
    have r_21 := ne_lo (lo := 1) n_20 rx_2 rc_0 rfl (by decide)
    refine g_iload C 0 dX12_act_16 rfl ?_
    exact g_zret (ty := .int) (r := x_2) B K rfl (rfl) ⟨hU, hF, hG, rg_w r_21 (by decide) (by decide)⟩ dX12_act_18
set_option maxRecDepth 100000 in
set_option maxHeartbeats 8000000 in
theorem c_X12_eat {l : Launch} {D : va_G} {cy : Nat → ClassId} {L : List Nat} {κ ln : Nat → Nat} {R : Nat → Nat → Option Nat} {I : Nat → Nat → Int32} {J : Nat → Nat → Int64} {ow : Nat → Nat × Nat} (W9 : ∀ a ∈ L, Shp L κ ln R ow a) {x : Nat} (hLx : x ∈ L) (hkx : κ x = 12) (a0 : Int32) (a1 : Int32) (a2 : Int32) (hU : Iw L κ R ow I) : CtI l yX12_eat cX12_eat 4 (some .int) { frames := 6, cells := 0, slots := 0, locals := 145 } D cy L κ ln R I J [.ref x, .int a0, .int a1, .int a2] (fun r I2 J2 => Iw L κ R ow I2 ∧ Fq L κ ow [1200, 1223, 83400, 83700] I I2 ∧ Fq L κ ow [] J J2 ∧ Rg (-1) 3 r) := by
  refine CtI.of (by decide +kernel) (Nat.le_of_ble_eq_true rfl) ?_
  intro p e s m below meth c B K
  have C := B.1
  have hF : Fq L κ ow [1200, 1223, 83400, 83700] I I := fq_rf
  have hG : Fq L κ ow [] J J := fq_rf
  refine g_lo (is := [0, 1, 2, 3]) (lo2 := [(0, .ref x), (1, .int a0), (2, .int a1), (3, .int a2)]) rfl ?_
  refine g_aload_n C 0 dX12_eat_0 rfl rfl ?_
  refine g_iconst C (v := 0) dX12_eat_1 (by decide) ?_
  refine h_putI C K hLx hkx f_12_82 p_12_0 dX12_eat_2 (fun I_1 hI_1 => ?_)
  have hU_2 := iw_put W9 hU hI_1 (ro_o hkx (by decide)) (lo := (-2147483648)) (hi := 2147483647) (rfl) (rg_all _) rfl
  have hF_3 := fq_puto hF hI_1 hkx (by decide) (by decide)
  refine g_aload_n C 0 dX12_eat_5 rfl rfl ?_
  refine g_iload_n C 1 dX12_eat_6 rfl rfl ?_
  refine g_callVI C K (c_X12_isPerson W9 hLx hkx a0  hU_2) hLx hkx (by decide) rfl v_12_238 rfl ⟨rfl, rfl⟩ ⟨Nat.le_of_ble_eq_true rfl, Nat.le_of_ble_eq_true rfl⟩ (Nat.le_of_ble_eq_true rfl) ⟨Nat.le_of_ble_eq_true rfl, Nat.le_of_ble_eq_true rfl⟩ dX12_eat_7 rfl (st := []) (fun x_4 I_5 J_6 h_7 => ?_)
  obtain ⟨rfl, rfl, rx_4, ex_4⟩ := h_7
  refine g_if_eq C (tgt := 42) dX12_eat_10 (by decide) (fun h_8 => ?_) (fun h_8 => ?_)
  · skip
    have r_9 := (⟨(rx_4).1, (eq_rg (h_8) rc_0).2⟩ : Rg 0 0 x_4)
    refine g_iconst C (v := (-1)) dX12_eat_42 (by decide) ?_
    exact g_zret (ty := .int) (r := (-1)) B K rfl (rfl) ⟨hU_2, hF_3, hG, rg_w rc_m1 (by decide) (by decide)⟩ dX12_eat_43
  · skip
    have n_10 : ¬ x_4 = 0 := h_8
    have r_11 := ne_lo (lo := 1) n_10 rx_4 rc_0 rfl (by decide)
    have r_12 := rg_i (rg_all a0) ((ex_4) n_10) (lo := 0) (hi := 6) (by decide) (by decide)
    refine g_aload_n C 0 dX12_eat_13 rfl rfl ?_
    refine g_iload_n C 2 dX12_eat_14 rfl rfl ?_
    refine g_callVI C K (c_X12_isDish W9 hLx hkx a1  hU_2) hLx hkx (by decide) rfl v_12_250 rfl ⟨rfl, rfl⟩ ⟨Nat.le_of_ble_eq_true rfl, Nat.le_of_ble_eq_true rfl⟩ (Nat.le_of_ble_eq_true rfl) ⟨Nat.le_of_ble_eq_true rfl, Nat.le_of_ble_eq_true rfl⟩ dX12_eat_15 rfl (st := []) (fun x_13 I_14 J_15 h_16 => ?_)
    obtain ⟨rfl, rfl, rx_13, ex_13⟩ := h_16
    refine g_if_eq C (tgt := 42) dX12_eat_18 (by decide) (fun h_17 => ?_) (fun h_17 => ?_)
    · skip
      have r_18 := (⟨(rx_13).1, (eq_rg (h_17) rc_0).2⟩ : Rg 0 0 x_13)
      refine g_iconst C (v := (-1)) dX12_eat_42 (by decide) ?_
      exact g_zret (ty := .int) (r := (-1)) B K rfl (rfl) ⟨hU_2, hF_3, hG, rg_w rc_m1 (by decide) (by decide)⟩ dX12_eat_43
    · skip
      have n_19 : ¬ x_13 = 0 := h_17
      have r_20 := ne_lo (lo := 1) n_19 rx_13 rc_0 rfl (by decide)
      have r_21 := rg_i (rg_all a1) ((ex_13) n_19) (lo := 0) (hi := 5) (by decide) (by decide)
      refine g_iload_n C 3 dX12_eat_21 rfl rfl ?_
      refine g_iconst C (v := 1) dX12_eat_22 (by decide) ?_
      refine g_bipush C (v := 20) dX12_eat_23 (by decide) ?_
      refine g_callSI C K (c_X12_isIn W9 a2 1 20 (rg_w rc_1 (by decide) (by decide)) (rg_w rc_20 (by decide) (by decide)) hU_2) s_12_149 rfl ⟨rfl, rfl⟩ ⟨Nat.le_of_ble_eq_true rfl, Nat.le_of_ble_eq_true rfl⟩ (Nat.le_of_ble_eq_true rfl) ⟨Nat.le_of_ble_eq_true rfl, Nat.le_of_ble_eq_true rfl⟩ dX12_eat_25 rfl (st := []) (fun x_22 I_23 J_24 h_25 => ?_)
      obtain ⟨rfl, rfl, rx_22, ex_22⟩ := h_25
      refine g_if_eq C (tgt := 42) dX12_eat_28 (by decide) (fun h_26 => ?_) (fun h_26 => ?_)
      · skip
        have r_27 := (⟨(rx_22).1, (eq_rg (h_26) rc_0).2⟩ : Rg 0 0 x_22)
        refine g_iconst C (v := (-1)) dX12_eat_42 (by decide) ?_
        exact g_zret (ty := .int) (r := (-1)) B K rfl (rfl) ⟨hU_2, hF_3, hG, rg_w rc_m1 (by decide) (by decide)⟩ dX12_eat_43
      · skip
        have n_28 : ¬ x_22 = 0 := h_26
        have r_29 := ne_lo (lo := 1) n_28 rx_22 rc_0 rfl (by decide)
        have r_30 := le_r (((ex_22.1) n_28)) rc_1 (rg_all a2)
        have r_31 := le_l (((ex_22.2) n_28)) r_30 rc_20
        refine g_aload_n C 0 dX12_eat_31 rfl rfl ?_
        refine g_iconst C (v := 0) dX12_eat_32 (by decide) ?_
        refine g_iload_n C 1 dX12_eat_33 rfl rfl ?_
        refine g_iload_n C 2 dX12_eat_34 rfl rfl ?_
        refine g_iload_n C 3 dX12_eat_35 rfl rfl ?_
        refine g_callVI C K (c_X12_act W9 hLx hkx 0 a0 a1 a2 (rg_w rc_0 (by decide) (by decide)) (r_12) (r_21) (rg_w r_31 (by decide) (by decide)) hU_2) hLx hkx (by decide) rfl v_12_289 rfl ⟨rfl, rfl⟩ ⟨Nat.le_of_ble_eq_true rfl, Nat.le_of_ble_eq_true rfl⟩ (Nat.le_of_ble_eq_true rfl) ⟨Nat.le_of_ble_eq_true rfl, Nat.le_of_ble_eq_true rfl⟩ dX12_eat_36 rfl (st := []) (fun x_32 I_33 J_34 h_35 => ?_)
        obtain ⟨hUI_33, hFI_33, hGJ_34, rx_32⟩ := h_35
        have hF_36 := fq_tr hF_3 hFI_33 (by decide)
        have hG_37 := fq_tr hG hGJ_34 (by decide)
        refine g_goto C (tgt := 43) dX12_eat_39 (by decide) ?_
        exact g_zret (ty := .int) (r := x_32) B K rfl (rfl) ⟨hUI_33, hF_36, hG_37, rg_w rx_32 (by decide) (by decide)⟩ dX12_eat_43
