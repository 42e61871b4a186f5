theorem dX12_bad_0 : decode cX12_bad 0 = .ok (.aload_n 0, 1) := by decide +kernel
theorem dX12_bad_1 : decode cX12_bad 1 = .ok (.aload_n 0, 1) := by decide +kernel
theorem dX12_bad_2 : decode cX12_bad 2 = .ok (.getfield 104, 3) := by decide +kernel
theorem dX12_bad_5 : decode cX12_bad 5 = .ok (.iconst 1, 1) := by decide +kernel
theorem dX12_bad_6 : decode cX12_bad 6 = .ok (.if_icmp .ne 7, 3) := by decide +kernel
theorem dX12_bad_13 : decode cX12_bad 13 = .ok (.iload_n 1, 1) := by decide +kernel
theorem dX12_bad_14 : decode cX12_bad 14 = .ok (.putfield 140, 3) := by decide +kernel
theorem dX12_bad_17 : decode cX12_bad 17 = .ok (.aload_n 0, 1) := by decide +kernel
theorem dX12_bad_18 : decode cX12_bad 18 = .ok (.aload_n 0, 1) := by decide +kernel
theorem dX12_bad_19 : decode cX12_bad 19 = .ok (.getfield 98, 3) := by decide +kernel
theorem dX12_bad_22 : decode cX12_bad 22 = .ok (.putfield 143, 3) := by decide +kernel
theorem dX12_bad_25 : decode cX12_bad 25 = .ok (.iconst 0, 1) := by decide +kernel
theorem dX12_bad_26 : decode cX12_bad 26 = .ok (.ireturn, 1) := by decide +kernel
theorem dX12_begin_0 : decode cX12_begin 0 = .ok (.aload_n 0, 1) := by decide +kernel
theorem dX12_begin_1 : decode cX12_begin 1 = .ok (.iconst 0, 1) := by decide +kernel
theorem dX12_begin_2 : decode cX12_begin 2 = .ok (.putfield 82, 3) := by decide +kernel
theorem dX12_begin_5 : decode cX12_begin 5 = .ok (.aload_n 0, 1) := by decide +kernel
theorem dX12_begin_6 : decode cX12_begin 6 = .ok (.aload_n 0, 1) := by decide +kernel
theorem dX12_begin_7 : decode cX12_begin 7 = .ok (.invokevirtual 162, 3) := by decide +kernel
theorem dX12_begin_10 : decode cX12_begin 10 = .ok (.putfield 92, 3) := by decide +kernel
theorem dX12_begin_13 : decode cX12_begin 13 = .ok (.aload_n 0, 1) := by decide +kernel
theorem dX12_begin_14 : decode cX12_begin 14 = .ok (.iload_n 1, 1) := by decide +kernel
theorem dX12_begin_15 : decode cX12_begin 15 = .ok (.putfield 101, 3) := by decide +kernel
theorem dX12_begin_18 : decode cX12_begin 18 = .ok (.aload_n 0, 1) := by decide +kernel
theorem dX12_begin_19 : decode cX12_begin 19 = .ok (.iconst 0, 1) := by decide +kernel
theorem dX12_begin_20 : decode cX12_begin 20 = .ok (.putfield 140, 3) := by decide +kernel
theorem dX12_begin_23 : decode cX12_begin 23 = .ok (.aload_n 0, 1) := by decide +kernel
theorem dX12_begin_24 : decode cX12_begin 24 = .ok (.iconst 0, 1) := by decide +kernel
theorem dX12_begin_25 : decode cX12_begin 25 = .ok (.putfield 95, 3) := by decide +kernel
theorem dX12_begin_28 : decode cX12_begin 28 = .ok (.aload_n 0, 1) := by decide +kernel
theorem dX12_begin_29 : decode cX12_begin 29 = .ok (.invokevirtual 156, 3) := by decide +kernel
theorem dX12_begin_32 : decode cX12_begin 32 = .ok (.return_, 1) := by decide +kernel
theorem dX12_bits_0 : decode cX12_bits 0 = .ok (.iconst 0, 1) := by decide +kernel
theorem dX12_bits_1 : decode cX12_bits 1 = .ok (.istore_n 1, 1) := by decide +kernel
theorem dX12_bits_2 : decode cX12_bits 2 = .ok (.iload_n 0, 1) := by decide +kernel
theorem dX12_bits_3 : decode cX12_bits 3 = .ok (.istore_n 2, 1) := by decide +kernel
theorem dX12_bits_4 : decode cX12_bits 4 = .ok (.iload_n 2, 1) := by decide +kernel
theorem dX12_bits_5 : decode cX12_bits 5 = .ok (.ifCond .eq 15, 3) := by decide +kernel
theorem dX12_bits_20 : decode cX12_bits 20 = .ok (.iload_n 1, 1) := by decide +kernel
theorem dX12_bits_21 : decode cX12_bits 21 = .ok (.ireturn, 1) := by decide +kernel
theorem dX12_go_0 : decode cX12_go 0 = .ok (.aload_n 0, 1) := by decide +kernel
theorem dX12_go_1 : decode cX12_go 1 = .ok (.getfield 95, 3) := by decide +kernel
theorem dX12_go_4 : decode cX12_go 4 = .ok (.aload_n 0, 1) := by decide +kernel
theorem dX12_go_5 : decode cX12_go 5 = .ok (.getfield 92, 3) := by decide +kernel
theorem dX12_go_8 : decode cX12_go 8 = .ok (.if_icmp .ge 44, 3) := by decide +kernel
theorem dX12_go_52 : decode cX12_go 52 = .ok (.aload_n 0, 1) := by decide +kernel
theorem dX12_go_53 : decode cX12_go 53 = .ok (.aload_n 0, 1) := by decide +kernel
theorem dX12_go_54 : decode cX12_go 54 = .ok (.getfield 95, 3) := by decide +kernel
theorem dX12_go_57 : decode cX12_go 57 = .ok (.putfield 98, 3) := by decide +kernel
theorem dX12_go_60 : decode cX12_go 60 = .ok (.aload_n 0, 1) := by decide +kernel
theorem dX12_go_61 : decode cX12_go 61 = .ok (.getfield 92, 3) := by decide +kernel
theorem dX12_go_64 : decode cX12_go 64 = .ok (.aload_n 0, 1) := by decide +kernel
theorem dX12_go_65 : decode cX12_go 65 = .ok (.getfield 101, 3) := by decide +kernel
theorem dX12_go_68 : decode cX12_go 68 = .ok (.if_icmp .le 28, 3) := by decide +kernel
theorem dX12_go_96 : decode cX12_go 96 = .ok (.aload_n 0, 1) := by decide +kernel
theorem dX12_go_97 : decode cX12_go 97 = .ok (.getfield 95, 3) := by decide +kernel
theorem dX12_go_100 : decode cX12_go 100 = .ok (.aload_n 0, 1) := by decide +kernel
theorem dX12_go_101 : decode cX12_go 101 = .ok (.getfield 92, 3) := by decide +kernel
theorem dX12_go_104 : decode cX12_go 104 = .ok (.if_icmp .lt 9, 3) := by decide +kernel
theorem dX12_go_107 : decode cX12_go 107 = .ok (.aload_n 0, 1) := by decide +kernel
theorem dX12_go_108 : decode cX12_go 108 = .ok (.iconst 0, 1) := by decide +kernel
theorem dX12_go_109 : decode cX12_go 109 = .ok (.putfield 104, 3) := by decide +kernel
theorem dX12_go_112 : decode cX12_go 112 = .ok (.return_, 1) := by decide +kernel
theorem dX12_isDish_0 : decode cX12_isDish 0 = .ok (.iload_n 1, 1) := by decide +kernel
theorem dX12_isDish_1 : decode cX12_isDish 1 = .ok (.iconst 0, 1) := by decide +kernel
theorem dX12_isDish_2 : decode cX12_isDish 2 = .ok (.aload_n 0, 1) := by decide +kernel
theorem dX12_isDish_3 : decode cX12_isDish 3 = .ok (.getfield 13, 3) := by decide +kernel
theorem dX12_isDish_6 : decode cX12_isDish 6 = .ok (.iconst 1, 1) := by decide +kernel
theorem dX12_isDish_7 : decode cX12_isDish 7 = .ok (.iaload, 1) := by decide +kernel
theorem dX12_isDish_8 : decode cX12_isDish 8 = .ok (.iconst 1, 1) := by decide +kernel
theorem dX12_isDish_9 : decode cX12_isDish 9 = .ok (.isub, 1) := by decide +kernel
theorem dX12_isDish_10 : decode cX12_isDish 10 = .ok (.invokestatic 149, 3) := by decide +kernel
theorem dX12_isDish_13 : decode cX12_isDish 13 = .ok (.ireturn, 1) := by decide +kernel
theorem dX12_isPerson_0 : decode cX12_isPerson 0 = .ok (.iload_n 1, 1) := by decide +kernel
theorem dX12_isPerson_1 : decode cX12_isPerson 1 = .ok (.iconst 0, 1) := by decide +kernel
theorem dX12_isPerson_2 : decode cX12_isPerson 2 = .ok (.aload_n 0, 1) := by decide +kernel
theorem dX12_isPerson_3 : decode cX12_isPerson 3 = .ok (.getfield 13, 3) := by decide +kernel
theorem dX12_isPerson_6 : decode cX12_isPerson 6 = .ok (.iconst 0, 1) := by decide +kernel
theorem dX12_isPerson_7 : decode cX12_isPerson 7 = .ok (.iaload, 1) := by decide +kernel
theorem dX12_isPerson_8 : decode cX12_isPerson 8 = .ok (.iconst 1, 1) := by decide +kernel
theorem dX12_isPerson_9 : decode cX12_isPerson 9 = .ok (.isub, 1) := by decide +kernel
theorem dX12_isPerson_10 : decode cX12_isPerson 10 = .ok (.invokestatic 149, 3) := by decide +kernel
theorem dX12_isPerson_13 : decode cX12_isPerson 13 = .ok (.ireturn, 1) := by decide +kernel
theorem dX12_isSign_0 : decode cX12_isSign 0 = .ok (.aload_n 0, 1) := by decide +kernel
theorem dX12_isSign_1 : decode cX12_isSign 1 = .ok (.getfield 104, 3) := by decide +kernel
theorem dX12_isSign_4 : decode cX12_isSign 4 = .ok (.iconst 4, 1) := by decide +kernel
theorem dX12_isSign_5 : decode cX12_isSign 5 = .ok (.if_icmp .ne 15, 3) := by decide +kernel
theorem dX12_isSign_20 : decode cX12_isSign 20 = .ok (.iconst 0, 1) := by decide +kernel
theorem dX12_isSign_21 : decode cX12_isSign 21 = .ok (.ireturn, 1) := by decide +kernel
theorem dX12_isWord_0 : decode cX12_isWord 0 = .ok (.aload_n 0, 1) := by decide +kernel
theorem dX12_isWord_1 : decode cX12_isWord 1 = .ok (.getfield 104, 3) := by decide +kernel
theorem dX12_isWord_4 : decode cX12_isWord 4 = .ok (.iconst 2, 1) := by decide +kernel
theorem dX12_isWord_5 : decode cX12_isWord 5 = .ok (.if_icmp .ne 19, 3) := by decide +kernel
theorem dX12_isWord_24 : decode cX12_isWord 24 = .ok (.iconst 0, 1) := by decide +kernel
theorem dX12_isWord_25 : decode cX12_isWord 25 = .ok (.ireturn, 1) := by decide +kernel
theorem dX12_layAside_0 : decode cX12_layAside 0 = .ok (.iconst 0, 1) := by decide +kernel
theorem dX12_layAside_1 : decode cX12_layAside 1 = .ok (.istore_n 1, 1) := by decide +kernel
theorem dX12_layAside_2 : decode cX12_layAside 2 = .ok (.iload_n 1, 1) := by decide +kernel
theorem dX12_layAside_3 : decode cX12_layAside 3 = .ok (.bipush 75, 2) := by decide +kernel
theorem dX12_layAside_5 : decode cX12_layAside 5 = .ok (.if_icmp .ge 24, 3) := by decide +kernel
theorem dX12_layAside_8 : decode cX12_layAside 8 = .ok (.aload_n 0, 1) := by decide +kernel
theorem dX12_layAside_9 : decode cX12_layAside 9 = .ok (.getfield 25, 3) := by decide +kernel
theorem dX12_layAside_12 : decode cX12_layAside 12 = .ok (.iload_n 1, 1) := by decide +kernel
theorem dX12_layAside_13 : decode cX12_layAside 13 = .ok (.aload_n 0, 1) := by decide +kernel
theorem dX12_layAside_14 : decode cX12_layAside 14 = .ok (.getfield 13, 3) := by decide +kernel
theorem dX12_layAside_17 : decode cX12_layAside 17 = .ok (.bipush 72, 2) := by decide +kernel
theorem dX12_layAside_19 : decode cX12_layAside 19 = .ok (.iload_n 1, 1) := by decide +kernel
theorem dX12_layAside_20 : decode cX12_layAside 20 = .ok (.iadd, 1) := by decide +kernel
theorem dX12_layAside_21 : decode cX12_layAside 21 = .ok (.iaload, 1) := by decide +kernel
theorem dX12_layAside_22 : decode cX12_layAside 22 = .ok (.iastore, 1) := by decide +kernel
theorem dX12_layAside_23 : decode cX12_layAside 23 = .ok (.iinc 1 1, 3) := by decide +kernel
theorem dX12_layAside_26 : decode cX12_layAside 26 = .ok (.goto (-24), 3) := by decide +kernel
theorem dX12_layAside_29 : decode cX12_layAside 29 = .ok (.return_, 1) := by decide +kernel
theorem dX12_least_0 : decode cX12_least 0 = .ok (.iload_n 0, 1) := by decide +kernel
theorem dX12_least_1 : decode cX12_least 1 = .ok (.iload_n 1, 1) := by decide +kernel
theorem dX12_least_2 : decode cX12_least 2 = .ok (.if_icmp .ge 7, 3) := by decide +kernel
theorem dX12_least_5 : decode cX12_least 5 = .ok (.iload_n 0, 1) := by decide +kernel
theorem dX12_least_6 : decode cX12_least 6 = .ok (.goto 4, 3) := by decide +kernel
theorem dX12_least_10 : decode cX12_least 10 = .ok (.ireturn, 1) := by decide +kernel
theorem dX12_living_0 : decode cX12_living 0 = .ok (.iconst 1, 1) := by decide +kernel
theorem dX12_living_1 : decode cX12_living 1 = .ok (.aload_n 0, 1) := by decide +kernel
theorem dX12_living_2 : decode cX12_living 2 = .ok (.getfield 13, 3) := by decide +kernel
theorem dX12_living_5 : decode cX12_living 5 = .ok (.iconst 0, 1) := by decide +kernel
theorem dX12_living_6 : decode cX12_living 6 = .ok (.iaload, 1) := by decide +kernel
theorem dX12_living_7 : decode cX12_living 7 = .ok (.ishl, 1) := by decide +kernel
theorem dX12_living_8 : decode cX12_living 8 = .ok (.iconst 1, 1) := by decide +kernel
theorem dX12_living_9 : decode cX12_living 9 = .ok (.isub, 1) := by decide +kernel
theorem dX12_living_10 : decode cX12_living 10 = .ok (.aload_n 0, 1) := by decide +kernel
theorem dX12_living_11 : decode cX12_living 11 = .ok (.getfield 13, 3) := by decide +kernel
theorem dX12_living_14 : decode cX12_living 14 = .ok (.bipush 73, 2) := by decide +kernel
theorem dX12_living_16 : decode cX12_living 16 = .ok (.iaload, 1) := by decide +kernel
theorem dX12_living_17 : decode cX12_living 17 = .ok (.iconst (-1), 1) := by decide +kernel
theorem dX12_living_18 : decode cX12_living 18 = .ok (.ixor, 1) := by decide +kernel
theorem dX12_living_19 : decode cX12_living 19 = .ok (.iand, 1) := by decide +kernel
theorem dX12_living_20 : decode cX12_living 20 = .ok (.ireturn, 1) := by decide +kernel
theorem dX12_oneMeal_0 : decode cX12_oneMeal 0 = .ok (.iconst 0, 1) := by decide +kernel
theorem dX12_oneMeal_1 : decode cX12_oneMeal 1 = .ok (.istore_n 1, 1) := by decide +kernel
theorem dX12_oneMeal_2 : decode cX12_oneMeal 2 = .ok (.iload_n 1, 1) := by decide +kernel
theorem dX12_oneMeal_3 : decode cX12_oneMeal 3 = .ok (.aload_n 0, 1) := by decide +kernel
theorem dX12_oneMeal_4 : decode cX12_oneMeal 4 = .ok (.getfield 13, 3) := by decide +kernel
theorem dX12_oneMeal_7 : decode cX12_oneMeal 7 = .ok (.iconst 0, 1) := by decide +kernel
theorem dX12_oneMeal_8 : decode cX12_oneMeal 8 = .ok (.iaload, 1) := by decide +kernel
theorem dX12_oneMeal_9 : decode cX12_oneMeal 9 = .ok (.if_icmp .ge 106, 3) := by decide +kernel
theorem dX12_oneMeal_115 : decode cX12_oneMeal 115 = .ok (.aload_n 0, 1) := by decide +kernel
theorem dX12_oneMeal_116 : decode cX12_oneMeal 116 = .ok (.getfield 13, 3) := by decide +kernel
theorem dX12_oneMeal_119 : decode cX12_oneMeal 119 = .ok (.bipush 72, 2) := by decide +kernel
theorem dX12_oneMeal_121 : decode cX12_oneMeal 121 = .ok (.dup2, 1) := by decide +kernel
theorem dX12_oneMeal_122 : decode cX12_oneMeal 122 = .ok (.iaload, 1) := by decide +kernel
theorem dX12_oneMeal_123 : decode cX12_oneMeal 123 = .ok (.iconst 1, 1) := by decide +kernel
theorem dX12_oneMeal_124 : decode cX12_oneMeal 124 = .ok (.iadd, 1) := by decide +kernel
theorem dX12_oneMeal_125 : decode cX12_oneMeal 125 = .ok (.iastore, 1) := by decide +kernel
theorem dX12_oneMeal_126 : decode cX12_oneMeal 126 = .ok (.return_, 1) := by decide +kernel
theorem dX12_orderFrom_0 : decode cX12_orderFrom 0 = .ok (.iload_n 2, 1) := by decide +kernel
theorem dX12_orderFrom_1 : decode cX12_orderFrom 1 = .ok (.ifCond .ne 87, 3) := by decide +kernel
theorem dX12_orderFrom_4 : decode cX12_orderFrom 4 = .ok (.iconst 0, 1) := by decide +kernel
theorem dX12_orderFrom_5 : decode cX12_orderFrom 5 = .ok (.istore_n 3, 1) := by decide +kernel
theorem dX12_orderFrom_6 : decode cX12_orderFrom 6 = .ok (.iconst 0, 1) := by decide +kernel
theorem dX12_orderFrom_7 : decode cX12_orderFrom 7 = .ok (.istore 4, 2) := by decide +kernel
theorem dX12_orderFrom_9 : decode cX12_orderFrom 9 = .ok (.iload 4, 2) := by decide +kernel
theorem dX12_orderFrom_11 : decode cX12_orderFrom 11 = .ok (.aload_n 0, 1) := by decide +kernel
theorem dX12_orderFrom_12 : decode cX12_orderFrom 12 = .ok (.getfield 13, 3) := by decide +kernel
theorem dX12_orderFrom_15 : decode cX12_orderFrom 15 = .ok (.iconst 0, 1) := by decide +kernel
theorem dX12_orderFrom_16 : decode cX12_orderFrom 16 = .ok (.iaload, 1) := by decide +kernel
theorem dX12_orderFrom_17 : decode cX12_orderFrom 17 = .ok (.if_icmp .ge 27, 3) := by decide +kernel
theorem dX12_orderFrom_44 : decode cX12_orderFrom 44 = .ok (.iload_n 3, 1) := by decide +kernel
theorem dX12_orderFrom_45 : decode cX12_orderFrom 45 = .ok (.aload_n 0, 1) := by decide +kernel
theorem dX12_orderFrom_46 : decode cX12_orderFrom 46 = .ok (.getfield 298, 3) := by decide +kernel
theorem dX12_orderFrom_49 : decode cX12_orderFrom 49 = .ok (.if_icmp .lt 4, 3) := by decide +kernel
theorem dX12_orderFrom_53 : decode cX12_orderFrom 53 = .ok (.aload_n 0, 1) := by decide +kernel
theorem dX12_orderFrom_54 : decode cX12_orderFrom 54 = .ok (.iload_n 3, 1) := by decide +kernel
theorem dX12_orderFrom_55 : decode cX12_orderFrom 55 = .ok (.putfield 298, 3) := by decide +kernel
theorem dX12_orderFrom_58 : decode cX12_orderFrom 58 = .ok (.iconst 0, 1) := by decide +kernel
theorem dX12_orderFrom_59 : decode cX12_orderFrom 59 = .ok (.istore 4, 2) := by decide +kernel
theorem dX12_orderFrom_61 : decode cX12_orderFrom 61 = .ok (.iload 4, 2) := by decide +kernel
theorem dX12_orderFrom_63 : decode cX12_orderFrom 63 = .ok (.iload_n 1, 1) := by decide +kernel
theorem dX12_orderFrom_64 : decode cX12_orderFrom 64 = .ok (.if_icmp .ge 23, 3) := by decide +kernel
theorem dX12_orderFrom_87 : decode cX12_orderFrom 87 = .ok (.return_, 1) := by decide +kernel
theorem dX12_passMeals_0 : decode cX12_passMeals 0 = .ok (.iload_n 1, 1) := by decide +kernel
theorem dX12_passMeals_1 : decode cX12_passMeals 1 = .ok (.sipush 200, 3) := by decide +kernel
theorem dX12_passMeals_4 : decode cX12_passMeals 4 = .ok (.aload_n 0, 1) := by decide +kernel
theorem dX12_passMeals_5 : decode cX12_passMeals 5 = .ok (.getfield 13, 3) := by decide +kernel
theorem dX12_passMeals_8 : decode cX12_passMeals 8 = .ok (.bipush 72, 2) := by decide +kernel
theorem dX12_passMeals_10 : decode cX12_passMeals 10 = .ok (.iaload, 1) := by decide +kernel
theorem dX12_passMeals_11 : decode cX12_passMeals 11 = .ok (.isub, 1) := by decide +kernel
theorem dX12_passMeals_12 : decode cX12_passMeals 12 = .ok (.invokestatic 265, 3) := by decide +kernel
theorem dX12_passMeals_15 : decode cX12_passMeals 15 = .ok (.istore_n 2, 1) := by decide +kernel
theorem dX12_passMeals_16 : decode cX12_passMeals 16 = .ok (.iconst 0, 1) := by decide +kernel
theorem dX12_passMeals_17 : decode cX12_passMeals 17 = .ok (.istore_n 3, 1) := by decide +kernel
theorem dX12_passMeals_18 : decode cX12_passMeals 18 = .ok (.iload_n 3, 1) := by decide +kernel
theorem dX12_passMeals_19 : decode cX12_passMeals 19 = .ok (.iload_n 2, 1) := by decide +kernel
theorem dX12_passMeals_20 : decode cX12_passMeals 20 = .ok (.if_icmp .ge 13, 3) := by decide +kernel
theorem dX12_passMeals_23 : decode cX12_passMeals 23 = .ok (.aload_n 0, 1) := by decide +kernel
theorem dX12_passMeals_24 : decode cX12_passMeals 24 = .ok (.invokevirtual 292, 3) := by decide +kernel
theorem dX12_passMeals_27 : decode cX12_passMeals 27 = .ok (.iinc 3 1, 3) := by decide +kernel
theorem dX12_passMeals_30 : decode cX12_passMeals 30 = .ok (.goto (-12), 3) := by decide +kernel
theorem dX12_passMeals_33 : decode cX12_passMeals 33 = .ok (.iload_n 2, 1) := by decide +kernel
theorem dX12_passMeals_34 : decode cX12_passMeals 34 = .ok (.ireturn, 1) := by decide +kernel
theorem dX12_readAnd_0 : decode cX12_readAnd 0 = .ok (.aload_n 0, 1) := by decide +kernel
theorem dX12_readAnd_1 : decode cX12_readAnd 1 = .ok (.invokevirtual 392, 3) := by decide +kernel
theorem dX12_readAnd_4 : decode cX12_readAnd 4 = .ok (.ifCond .ne 5, 3) := by decide +kernel
theorem dX12_readAnd_7 : decode cX12_readAnd 7 = .ok (.iconst 0, 1) := by decide +kernel
theorem dX12_readAnd_8 : decode cX12_readAnd 8 = .ok (.ireturn, 1) := by decide +kernel
theorem dX12_readOr_0 : decode cX12_readOr 0 = .ok (.aload_n 0, 1) := by decide +kernel
theorem dX12_readOr_1 : decode cX12_readOr 1 = .ok (.invokevirtual 383, 3) := by decide +kernel
theorem dX12_readOr_4 : decode cX12_readOr 4 = .ok (.ifCond .ne 5, 3) := by decide +kernel
theorem dX12_readOr_7 : decode cX12_readOr 7 = .ok (.iconst 0, 1) := by decide +kernel
theorem dX12_readOr_8 : decode cX12_readOr 8 = .ok (.ireturn, 1) := by decide +kernel
theorem dX12_readSaid_0 : decode cX12_readSaid 0 = .ok (.aload_n 0, 1) := by decide +kernel
theorem dX12_readSaid_1 : decode cX12_readSaid 1 = .ok (.bipush 40, 2) := by decide +kernel
theorem dX12_readSaid_3 : decode cX12_readSaid 3 = .ok (.invokevirtual 159, 3) := by decide +kernel
theorem dX12_readSaid_6 : decode cX12_readSaid 6 = .ok (.istore_n 1, 1) := by decide +kernel
theorem dX12_readSaid_7 : decode cX12_readSaid 7 = .ok (.bipush 18, 2) := by decide +kernel
theorem dX12_readSaid_9 : decode cX12_readSaid 9 = .ok (.istore_n 2, 1) := by decide +kernel
theorem dX12_readSaid_10 : decode cX12_readSaid 10 = .ok (.iload_n 2, 1) := by decide +kernel
theorem dX12_readSaid_11 : decode cX12_readSaid 11 = .ok (.bipush 27, 2) := by decide +kernel
theorem dX12_readSaid_13 : decode cX12_readSaid 13 = .ok (.if_icmp .gt 17, 3) := by decide +kernel
theorem dX12_readSaid_16 : decode cX12_readSaid 16 = .ok (.aload_n 0, 1) := by decide +kernel
theorem dX12_readSaid_17 : decode cX12_readSaid 17 = .ok (.iload_n 2, 1) := by decide +kernel
theorem dX12_readSaid_18 : decode cX12_readSaid 18 = .ok (.invokevirtual 191, 3) := by decide +kernel
theorem dX12_readSaid_21 : decode cX12_readSaid 21 = .ok (.ifCond .ne 9, 3) := by decide +kernel
theorem dX12_readSaid_24 : decode cX12_readSaid 24 = .ok (.iinc 2 1, 3) := by decide +kernel
theorem dX12_readSaid_27 : decode cX12_readSaid 27 = .ok (.goto (-17), 3) := by decide +kernel
theorem dX12_readSaid_30 : decode cX12_readSaid 30 = .ok (.iload_n 1, 1) := by decide +kernel
theorem dX12_readSaid_31 : decode cX12_readSaid 31 = .ok (.ifCond .ne 15, 3) := by decide +kernel
theorem dX12_readSaid_34 : decode cX12_readSaid 34 = .ok (.iload_n 2, 1) := by decide +kernel
theorem dX12_readSaid_35 : decode cX12_readSaid 35 = .ok (.bipush 27, 2) := by decide +kernel
theorem dX12_readSaid_37 : decode cX12_readSaid 37 = .ok (.if_icmp .le 9, 3) := by decide +kernel
theorem dX12_readSaid_40 : decode cX12_readSaid 40 = .ok (.aload_n 0, 1) := by decide +kernel
theorem dX12_readSaid_41 : decode cX12_readSaid 41 = .ok (.iconst 1, 1) := by decide +kernel
theorem dX12_readSaid_42 : decode cX12_readSaid 42 = .ok (.invokevirtual 146, 3) := by decide +kernel
theorem dX12_readSaid_45 : decode cX12_readSaid 45 = .ok (.ireturn, 1) := by decide +kernel
theorem dX12_refuse_0 : decode cX12_refuse 0 = .ok (.aload_n 0, 1) := by decide +kernel
theorem dX12_refuse_1 : decode cX12_refuse 1 = .ok (.iconst 1, 1) := by decide +kernel
theorem dX12_refuse_2 : decode cX12_refuse 2 = .ok (.putfield 82, 3) := by decide +kernel
theorem dX12_refuse_5 : decode cX12_refuse 5 = .ok (.iconst 0, 1) := by decide +kernel
theorem dX12_refuse_6 : decode cX12_refuse 6 = .ok (.ireturn, 1) := by decide +kernel
theorem dX12_seatFrom_0 : decode cX12_seatFrom 0 = .ok (.iload_n 2, 1) := by decide +kernel
theorem dX12_seatFrom_1 : decode cX12_seatFrom 1 = .ok (.ifCond .ne 47, 3) := by decide +kernel
theorem dX12_seatFrom_4 : decode cX12_seatFrom 4 = .ok (.iload_n 3, 1) := by decide +kernel
theorem dX12_seatFrom_5 : decode cX12_seatFrom 5 = .ok (.aload_n 0, 1) := by decide +kernel
theorem dX12_seatFrom_6 : decode cX12_seatFrom 6 = .ok (.getfield 320, 3) := by decide +kernel
theorem dX12_seatFrom_9 : decode cX12_seatFrom 9 = .ok (.if_icmp .gt 4, 3) := by decide +kernel
theorem dX12_seatFrom_13 : decode cX12_seatFrom 13 = .ok (.aload_n 0, 1) := by decide +kernel
theorem dX12_seatFrom_14 : decode cX12_seatFrom 14 = .ok (.iload_n 3, 1) := by decide +kernel
theorem dX12_seatFrom_15 : decode cX12_seatFrom 15 = .ok (.putfield 320, 3) := by decide +kernel
theorem dX12_seatFrom_18 : decode cX12_seatFrom 18 = .ok (.iconst 0, 1) := by decide +kernel
theorem dX12_seatFrom_19 : decode cX12_seatFrom 19 = .ok (.istore 4, 2) := by decide +kernel
theorem dX12_seatFrom_21 : decode cX12_seatFrom 21 = .ok (.iload 4, 2) := by decide +kernel
theorem dX12_seatFrom_23 : decode cX12_seatFrom 23 = .ok (.iload_n 1, 1) := by decide +kernel
theorem dX12_seatFrom_24 : decode cX12_seatFrom 24 = .ok (.if_icmp .ge 23, 3) := by decide +kernel
theorem dX12_seatFrom_47 : decode cX12_seatFrom 47 = .ok (.return_, 1) := by decide +kernel
theorem dX12_snap_0 : decode cX12_snap 0 = .ok (.aload_n 0, 1) := by decide +kernel
theorem dX12_snap_1 : decode cX12_snap 1 = .ok (.getfield 228, 3) := by decide +kernel
theorem dX12_snap_4 : decode cX12_snap 4 = .ok (.bipush 8, 2) := by decide +kernel
theorem dX12_snap_6 : decode cX12_snap 6 = .ok (.if_icmp .ne 43, 3) := by decide +kernel
theorem dX12_snap_49 : decode cX12_snap 49 = .ok (.iconst 0, 1) := by decide +kernel
theorem dX12_snap_50 : decode cX12_snap 50 = .ok (.istore_n 1, 1) := by decide +kernel
theorem dX12_snap_51 : decode cX12_snap 51 = .ok (.iload_n 1, 1) := by decide +kernel
theorem dX12_snap_52 : decode cX12_snap 52 = .ok (.bipush 75, 2) := by decide +kernel
theorem dX12_snap_54 : decode cX12_snap 54 = .ok (.if_icmp .ge 32, 3) := by decide +kernel
theorem dX12_snap_57 : decode cX12_snap 57 = .ok (.aload_n 0, 1) := by decide +kernel
theorem dX12_snap_58 : decode cX12_snap 58 = .ok (.getfield 22, 3) := by decide +kernel
theorem dX12_snap_61 : decode cX12_snap 61 = .ok (.bipush 75, 2) := by decide +kernel
theorem dX12_snap_63 : decode cX12_snap 63 = .ok (.aload_n 0, 1) := by decide +kernel
theorem dX12_snap_64 : decode cX12_snap 64 = .ok (.getfield 228, 3) := by decide +kernel
theorem dX12_snap_67 : decode cX12_snap 67 = .ok (.imul, 1) := by decide +kernel
theorem dX12_snap_68 : decode cX12_snap 68 = .ok (.iload_n 1, 1) := by decide +kernel
theorem dX12_snap_69 : decode cX12_snap 69 = .ok (.iadd, 1) := by decide +kernel
theorem dX12_snap_70 : decode cX12_snap 70 = .ok (.aload_n 0, 1) := by decide +kernel
theorem dX12_snap_71 : decode cX12_snap 71 = .ok (.getfield 13, 3) := by decide +kernel
theorem dX12_snap_74 : decode cX12_snap 74 = .ok (.bipush 72, 2) := by decide +kernel
theorem dX12_snap_76 : decode cX12_snap 76 = .ok (.iload_n 1, 1) := by decide +kernel
theorem dX12_snap_77 : decode cX12_snap 77 = .ok (.iadd, 1) := by decide +kernel
theorem dX12_snap_78 : decode cX12_snap 78 = .ok (.iaload, 1) := by decide +kernel
theorem dX12_snap_79 : decode cX12_snap 79 = .ok (.iastore, 1) := by decide +kernel
theorem dX12_snap_80 : decode cX12_snap 80 = .ok (.iinc 1 1, 3) := by decide +kernel
theorem dX12_snap_83 : decode cX12_snap 83 = .ok (.goto (-32), 3) := by decide +kernel
theorem dX12_snap_86 : decode cX12_snap 86 = .ok (.aload_n 0, 1) := by decide +kernel
theorem dX12_snap_87 : decode cX12_snap 87 = .ok (.dup, 1) := by decide +kernel
theorem dX12_snap_88 : decode cX12_snap 88 = .ok (.getfield 228, 3) := by decide +kernel
theorem dX12_snap_91 : decode cX12_snap 91 = .ok (.iconst 1, 1) := by decide +kernel
theorem dX12_snap_92 : decode cX12_snap 92 = .ok (.iadd, 1) := by decide +kernel
theorem dX12_snap_93 : decode cX12_snap 93 = .ok (.putfield 228, 3) := by decide +kernel
theorem dX12_snap_96 : decode cX12_snap 96 = .ok (.return_, 1) := by decide +kernel
theorem dX12_startSo_0 : decode cX12_startSo 0 = .ok (.bipush 72, 2) := by decide +kernel
theorem dX12_startSo_2 : decode cX12_startSo 2 = .ok (.istore_n 1, 1) := by decide +kernel
theorem dX12_startSo_3 : decode cX12_startSo 3 = .ok (.iload_n 1, 1) := by decide +kernel
theorem dX12_startSo_4 : decode cX12_startSo 4 = .ok (.sipush 389, 3) := by decide +kernel
theorem dX12_startSo_7 : decode cX12_startSo 7 = .ok (.if_icmp .ge 16, 3) := by decide +kernel
theorem dX12_startSo_10 : decode cX12_startSo 10 = .ok (.aload_n 0, 1) := by decide +kernel
theorem dX12_startSo_11 : decode cX12_startSo 11 = .ok (.getfield 13, 3) := by decide +kernel
theorem dX12_startSo_14 : decode cX12_startSo 14 = .ok (.iload_n 1, 1) := by decide +kernel
theorem dX12_startSo_15 : decode cX12_startSo 15 = .ok (.iconst 0, 1) := by decide +kernel
theorem dX12_startSo_16 : decode cX12_startSo 16 = .ok (.iastore, 1) := by decide +kernel
theorem dX12_startSo_17 : decode cX12_startSo 17 = .ok (.iinc 1 1, 3) := by decide +kernel
theorem dX12_startSo_20 : decode cX12_startSo 20 = .ok (.goto (-17), 3) := by decide +kernel
theorem dX12_startSo_23 : decode cX12_startSo 23 = .ok (.iconst 0, 1) := by decide +kernel
theorem dX12_startSo_24 : decode cX12_startSo 24 = .ok (.istore_n 1, 1) := by decide +kernel
theorem dX12_startSo_25 : decode cX12_startSo 25 = .ok (.iload_n 1, 1) := by decide +kernel
theorem dX12_startSo_26 : decode cX12_startSo 26 = .ok (.bipush 6, 2) := by decide +kernel
theorem dX12_startSo_28 : decode cX12_startSo 28 = .ok (.if_icmp .ge 27, 3) := by decide +kernel
theorem dX12_startSo_31 : decode cX12_startSo 31 = .ok (.aload_n 0, 1) := by decide +kernel
theorem dX12_startSo_32 : decode cX12_startSo 32 = .ok (.getfield 13, 3) := by decide +kernel
theorem dX12_startSo_35 : decode cX12_startSo 35 = .ok (.bipush 78, 2) := by decide +kernel
theorem dX12_startSo_37 : decode cX12_startSo 37 = .ok (.iload_n 1, 1) := by decide +kernel
theorem dX12_startSo_38 : decode cX12_startSo 38 = .ok (.iadd, 1) := by decide +kernel
theorem dX12_startSo_39 : decode cX12_startSo 39 = .ok (.aload_n 0, 1) := by decide +kernel
theorem dX12_startSo_40 : decode cX12_startSo 40 = .ok (.getfield 13, 3) := by decide +kernel
theorem dX12_startSo_43 : decode cX12_startSo 43 = .ok (.bipush 18, 2) := by decide +kernel
theorem dX12_startSo_45 : decode cX12_startSo 45 = .ok (.iload_n 1, 1) := by decide +kernel
theorem dX12_startSo_46 : decode cX12_startSo 46 = .ok (.iadd, 1) := by decide +kernel
theorem dX12_startSo_47 : decode cX12_startSo 47 = .ok (.iaload, 1) := by decide +kernel
theorem dX12_startSo_48 : decode cX12_startSo 48 = .ok (.iastore, 1) := by decide +kernel
theorem dX12_startSo_49 : decode cX12_startSo 49 = .ok (.iinc 1 1, 3) := by decide +kernel
theorem dX12_startSo_52 : decode cX12_startSo 52 = .ok (.goto (-27), 3) := by decide +kernel
theorem dX12_startSo_55 : decode cX12_startSo 55 = .ok (.iconst 0, 1) := by decide +kernel
theorem dX12_startSo_56 : decode cX12_startSo 56 = .ok (.istore_n 1, 1) := by decide +kernel
theorem dX12_startSo_57 : decode cX12_startSo 57 = .ok (.iload_n 1, 1) := by decide +kernel
theorem dX12_startSo_58 : decode cX12_startSo 58 = .ok (.bipush 42, 2) := by decide +kernel
theorem dX12_startSo_60 : decode cX12_startSo 60 = .ok (.if_icmp .ge 27, 3) := by decide +kernel
theorem dX12_startSo_63 : decode cX12_startSo 63 = .ok (.aload_n 0, 1) := by decide +kernel
theorem dX12_startSo_64 : decode cX12_startSo 64 = .ok (.getfield 13, 3) := by decide +kernel
theorem dX12_startSo_67 : decode cX12_startSo 67 = .ok (.bipush 105, 2) := by decide +kernel
theorem dX12_startSo_69 : decode cX12_startSo 69 = .ok (.iload_n 1, 1) := by decide +kernel
theorem dX12_startSo_70 : decode cX12_startSo 70 = .ok (.iadd, 1) := by decide +kernel
theorem dX12_startSo_71 : decode cX12_startSo 71 = .ok (.aload_n 0, 1) := by decide +kernel
theorem dX12_startSo_72 : decode cX12_startSo 72 = .ok (.getfield 13, 3) := by decide +kernel
theorem dX12_startSo_75 : decode cX12_startSo 75 = .ok (.bipush 30, 2) := by decide +kernel
theorem dX12_startSo_77 : decode cX12_startSo 77 = .ok (.iload_n 1, 1) := by decide +kernel
theorem dX12_startSo_78 : decode cX12_startSo 78 = .ok (.iadd, 1) := by decide +kernel
theorem dX12_startSo_79 : decode cX12_startSo 79 = .ok (.iaload, 1) := by decide +kernel
theorem dX12_startSo_80 : decode cX12_startSo 80 = .ok (.iastore, 1) := by decide +kernel
theorem dX12_startSo_81 : decode cX12_startSo 81 = .ok (.iinc 1 1, 3) := by decide +kernel
theorem dX12_startSo_84 : decode cX12_startSo 84 = .ok (.goto (-27), 3) := by decide +kernel
theorem dX12_startSo_87 : decode cX12_startSo 87 = .ok (.return_, 1) := by decide +kernel
theorem dX12_stay_0 : decode cX12_stay 0 = .ok (.iconst 0, 1) := by decide +kernel
theorem dX12_stay_1 : decode cX12_stay 1 = .ok (.istore_n 2, 1) := by decide +kernel
theorem dX12_stay_2 : decode cX12_stay 2 = .ok (.iload_n 2, 1) := by decide +kernel
theorem dX12_stay_3 : decode cX12_stay 3 = .ok (.bipush 75, 2) := by decide +kernel
theorem dX12_stay_5 : decode cX12_stay 5 = .ok (.if_icmp .ge 41, 3) := by decide +kernel
theorem dX12_stay_8 : decode cX12_stay 8 = .ok (.aload_n 0, 1) := by decide +kernel
theorem dX12_stay_9 : decode cX12_stay 9 = .ok (.getfield 13, 3) := by decide +kernel
theorem dX12_stay_12 : decode cX12_stay 12 = .ok (.bipush 72, 2) := by decide +kernel
theorem dX12_stay_14 : decode cX12_stay 14 = .ok (.iload_n 2, 1) := by decide +kernel
theorem dX12_stay_15 : decode cX12_stay 15 = .ok (.iadd, 1) := by decide +kernel
theorem dX12_stay_16 : decode cX12_stay 16 = .ok (.iaload, 1) := by decide +kernel
theorem dX12_stay_17 : decode cX12_stay 17 = .ok (.istore_n 3, 1) := by decide +kernel
theorem dX12_stay_18 : decode cX12_stay 18 = .ok (.aload_n 0, 1) := by decide +kernel
theorem dX12_stay_19 : decode cX12_stay 19 = .ok (.getfield 13, 3) := by decide +kernel
theorem dX12_stay_22 : decode cX12_stay 22 = .ok (.bipush 72, 2) := by decide +kernel
theorem dX12_stay_24 : decode cX12_stay 24 = .ok (.iload_n 2, 1) := by decide +kernel
theorem dX12_stay_25 : decode cX12_stay 25 = .ok (.iadd, 1) := by decide +kernel
theorem dX12_stay_26 : decode cX12_stay 26 = .ok (.aload_n 0, 1) := by decide +kernel
theorem dX12_stay_27 : decode cX12_stay 27 = .ok (.getfield 25, 3) := by decide +kernel
theorem dX12_stay_30 : decode cX12_stay 30 = .ok (.iload_n 2, 1) := by decide +kernel
theorem dX12_stay_31 : decode cX12_stay 31 = .ok (.iaload, 1) := by decide +kernel
theorem dX12_stay_32 : decode cX12_stay 32 = .ok (.iastore, 1) := by decide +kernel
theorem dX12_stay_33 : decode cX12_stay 33 = .ok (.aload_n 0, 1) := by decide +kernel
theorem dX12_stay_34 : decode cX12_stay 34 = .ok (.getfield 25, 3) := by decide +kernel
theorem dX12_stay_37 : decode cX12_stay 37 = .ok (.iload_n 2, 1) := by decide +kernel
theorem dX12_stay_38 : decode cX12_stay 38 = .ok (.iload_n 3, 1) := by decide +kernel
theorem dX12_stay_39 : decode cX12_stay 39 = .ok (.iastore, 1) := by decide +kernel
theorem dX12_stay_40 : decode cX12_stay 40 = .ok (.iinc 2 1, 3) := by decide +kernel
theorem dX12_stay_43 : decode cX12_stay 43 = .ok (.goto (-41), 3) := by decide +kernel
theorem dX12_stay_46 : decode cX12_stay 46 = .ok (.iload_n 1, 1) := by decide +kernel
theorem dX12_stay_47 : decode cX12_stay 47 = .ok (.ifCond .ne 4, 3) := by decide +kernel
theorem dX12_stay_50 : decode cX12_stay 50 = .ok (.return_, 1) := by decide +kernel
theorem dX12_sumOf_0 : decode cX12_sumOf 0 = .ok (.iconst 0, 1) := by decide +kernel
theorem dX12_sumOf_1 : decode cX12_sumOf 1 = .ok (.istore_n 2, 1) := by decide +kernel
theorem dX12_sumOf_2 : decode cX12_sumOf 2 = .ok (.iconst 0, 1) := by decide +kernel
theorem dX12_sumOf_3 : decode cX12_sumOf 3 = .ok (.istore_n 3, 1) := by decide +kernel
theorem dX12_sumOf_4 : decode cX12_sumOf 4 = .ok (.iload_n 3, 1) := by decide +kernel
theorem dX12_sumOf_5 : decode cX12_sumOf 5 = .ok (.aload_n 0, 1) := by decide +kernel
theorem dX12_sumOf_6 : decode cX12_sumOf 6 = .ok (.getfield 13, 3) := by decide +kernel
theorem dX12_sumOf_9 : decode cX12_sumOf 9 = .ok (.iconst 0, 1) := by decide +kernel
theorem dX12_sumOf_10 : decode cX12_sumOf 10 = .ok (.iaload, 1) := by decide +kernel
theorem dX12_sumOf_11 : decode cX12_sumOf 11 = .ok (.if_icmp .ge 20, 3) := by decide +kernel
theorem dX12_sumOf_31 : decode cX12_sumOf 31 = .ok (.iload_n 2, 1) := by decide +kernel
theorem dX12_sumOf_32 : decode cX12_sumOf 32 = .ok (.ireturn, 1) := by decide +kernel
theorem dX12_take_0 : decode cX12_take 0 = .ok (.aload_n 0, 1) := by decide +kernel
theorem dX12_take_1 : decode cX12_take 1 = .ok (.getfield 85, 3) := by decide +kernel
theorem dX12_take_4 : decode cX12_take 4 = .ok (.istore_n 1, 1) := by decide +kernel
theorem dX12_take_5 : decode cX12_take 5 = .ok (.aload_n 0, 1) := by decide +kernel
theorem dX12_take_6 : decode cX12_take 6 = .ok (.iconst 0, 1) := by decide +kernel
theorem dX12_take_7 : decode cX12_take 7 = .ok (.putfield 85, 3) := by decide +kernel
theorem dX12_take_10 : decode cX12_take 10 = .ok (.iload_n 1, 1) := by decide +kernel
theorem dX12_take_11 : decode cX12_take 11 = .ok (.ireturn, 1) := by decide +kernel
theorem dX12_thrown_0 : decode cX12_thrown 0 = .ok (.aload_n 0, 1) := by decide +kernel
theorem dX12_thrown_1 : decode cX12_thrown 1 = .ok (.getfield 82, 3) := by decide +kernel
theorem dX12_thrown_4 : decode cX12_thrown 4 = .ok (.ireturn, 1) := by decide +kernel
theorem is_1 {x a b r : Int32} (er : r = if a ≤ x ∧ x ≤ b then 1 else 0) (h : ¬ r = 0) : a ≤ x ∧ x ≤ b := by
  by_cases q : a ≤ x ∧ x ≤ b
  · exact q
  · rw [if_neg q] at er; exact absurd er h
theorem is_0 {x a b r : Int32} (er : r = if a ≤ x ∧ x ≤ b then 1 else 0) (h : r = 0) : ¬ (a ≤ x ∧ x ≤ b) := by
  intro q
  rw [if_pos q, h] at er
  exact absurd er (by decide)
theorem z_in {v : Int32} : (if 0 ≤ v ∧ v ≤ -1 then (1 : Int32) else 0) = 0 := if_neg (z_isIn rfl)
theorem hz_ife {x a b r : Int32} (er : r = if a ≤ x ∧ x ≤ b then 1 else 0) : r = 0 ∨ r = 1 := by
  by_cases q : a ≤ x ∧ x ≤ b
  · rw [if_pos q] at er; exact Or.inr er
  · rw [if_neg q] at er; exact Or.inl er
set_option maxRecDepth 100000 in
set_option maxHeartbeats 4000000 in
theorem m_bits0 {l : Launch} {D : va_G} {cy : Nat → ClassId} {L : List Nat} {κ ln : Nat → Nat} {R : Nat → Nat → Option Nat} {I : Nat → Nat → Int32} {J : Nat → Nat → Int64}  : CtI l yX12_bits cX12_bits 3 (some .int) { frames := 0, cells := 0, slots := 0, locals := 0 } D cy L κ ln R I J [.int 0] (fun r I2 J2 => I = I2 ∧ J = J2 ∧ r = 0) := by
  refine CtI.of (by decide +kernel) (Nat.le_of_ble_eq_true rfl) ?_
  intro p e s m below meth c B K
  have C := B.1
  refine g_lo (is := [0]) (lo2 := [(0, .int 0)]) rfl ?_
  refine g_iconst C (v := 0) dX12_bits_0 (by decide) ?_
  refine g_istore_n C dX12_bits_1 rfl (by decide) (lo2 := [(1, .int 0), (0, .int 0)]) rfl ?_
  refine g_iload_n C 1 dX12_bits_2 rfl rfl ?_
  refine g_istore_n C dX12_bits_3 rfl (by decide) (lo2 := [(2, .int 0), (1, .int 0), (0, .int 0)]) rfl ?_
  refine g_iload_n C 0 dX12_bits_4 rfl rfl ?_
  refine t_if_eq C (tgt := 20) (by decide) dX12_bits_5 (by decide) ?_
  refine g_iload_n C 1 dX12_bits_20 rfl rfl ?_
  exact g_zret (ty := .int) (r := 0) B K rfl rfl (⟨rfl, rfl, rfl⟩) dX12_bits_21
set_option maxRecDepth 100000 in
set_option maxHeartbeats 4000000 in
theorem m_least0 {l : Launch} {D : va_G} {cy : Nat → ClassId} {L : List Nat} {κ ln : Nat → Nat} {R : Nat → Nat → Option Nat} {I : Nat → Nat → Int32} {J : Nat → Nat → Int64} (N : Nat) (h : N ≤ 60) : CtI l yX12_least cX12_least 2 (some .int) { frames := 0, cells := 0, slots := 0, locals := 0 } D cy L κ ln R I J [.int (nI N), .int 200] (fun r I2 J2 => I = I2 ∧ J = J2 ∧ r = nI N) := by
  refine CtI.of (by decide +kernel) (Nat.le_of_ble_eq_true rfl) ?_
  intro p e s m below meth c B K
  have C := B.1
  refine g_lo (is := [0, 1]) (lo2 := [(0, .int (nI N)), (1, .int 200)]) rfl ?_
  refine g_iload_n C 0 dX12_least_0 rfl rfl ?_
  refine g_iload_n C 1 dX12_least_1 rfl rfl ?_
  refine n_icmp_ge C (tgt := 9) (ln_ge (n := N) (k := 200) (by omega) (by omega)) dX12_least_2 (by decide) ?_
  refine g_iload_n C 0 dX12_least_5 rfl rfl ?_
  refine g_goto C (tgt := 10) dX12_least_6 (by decide) ?_
  exact g_zret (ty := .int) (r := nI N) B K rfl rfl (⟨rfl, rfl, rfl⟩) dX12_least_10
set_option maxRecDepth 100000 in
set_option maxHeartbeats 4000000 in
theorem m_isPerson0 {l : Launch} {D : va_G} {cy : Nat → ClassId} {L : List Nat} {κ ln : Nat → Nat} {R : Nat → Nat → Option Nat} {I : Nat → Nat → Int32} {J : Nat → Nat → Int64} {ow : Nat → Nat × Nat} (W9 : ∀ a ∈ L, Shp L κ ln R ow a) {x : Nat} (hLx : x ∈ L) (hkx : κ x = 12) (Z14 : Zk L κ 14 I) (p1 : Int32) : CtI l yX12_isPerson cX12_isPerson 2 (some .boolean) { frames := 1, cells := 0, slots := 0, locals := 100 } D cy L κ ln R I J [.ref x, .int p1] (fun r I2 J2 => I = I2 ∧ J = J2 ∧ r = 0) := by
  refine CtI.of (by decide +kernel) (Nat.le_of_ble_eq_true rfl) ?_
  intro p e s m below meth c B K
  have C := B.1
  refine g_lo (is := [0, 1]) (lo2 := [(0, .ref x), (1, .int p1)]) rfl ?_
  refine g_iload_n C 1 dX12_isPerson_0 rfl rfl ?_
  refine g_iconst C (v := 0) dX12_isPerson_1 (by decide) ?_
  refine g_aload_n C 0 dX12_isPerson_2 rfl rfl ?_
  obtain ⟨b_808, hb_808, hb_808L, hb_808k, hb_808n, hb_808o⟩ := shp_a (W9 x hLx) hkx 14 14 389 rfl (by decide)
  refine g_getR C K hLx hkx f_12_13 hb_808 dX12_isPerson_3 ?_
  refine g_iconst C (v := 0) dX12_isPerson_6 (by decide) ?_
  refine h_iald C K hb_808L hb_808k (v := 0) (0) (by decide) (by decide) (by rw [hb_808n]; decide) (Z14 b_808 hb_808L hb_808k 0) dX12_isPerson_7 ?_
  refine g_iconst C (v := 1) dX12_isPerson_8 (by decide) ?_
  refine g_isub C (v := (-1)) dX12_isPerson_9 (by decide) ?_
  refine g_callSI C K (c_Mod_isIn (p1) (0) ((-1))) s_12_149 rfl ⟨rfl, rfl⟩ ⟨Nat.le_of_ble_eq_true rfl, Nat.le_of_ble_eq_true rfl⟩ (Nat.le_of_ble_eq_true rfl) ⟨Nat.le_of_ble_eq_true rfl, Nat.le_of_ble_eq_true rfl⟩ dX12_isPerson_10 rfl (st := []) (fun r_812 I_809 J_810 h_811 => ?_)
  obtain ⟨rfl, rfl, er_812⟩ := h_811
  have h0r_812 := er_812
  rw [z_in] at er_812
  subst er_812
  exact g_zret (ty := .boolean) (r := 0) B K rfl (by decide) (⟨rfl, rfl, rfl⟩) dX12_isPerson_13
set_option maxRecDepth 100000 in
set_option maxHeartbeats 4000000 in
theorem m_isDish0 {l : Launch} {D : va_G} {cy : Nat → ClassId} {L : List Nat} {κ ln : Nat → Nat} {R : Nat → Nat → Option Nat} {I : Nat → Nat → Int32} {J : Nat → Nat → Int64} {ow : Nat → Nat × Nat} (W9 : ∀ a ∈ L, Shp L κ ln R ow a) {x : Nat} (hLx : x ∈ L) (hkx : κ x = 12) (Z14 : Zk L κ 14 I) (p1 : Int32) : CtI l yX12_isDish cX12_isDish 2 (some .boolean) { frames := 1, cells := 0, slots := 0, locals := 100 } D cy L κ ln R I J [.ref x, .int p1] (fun r I2 J2 => I = I2 ∧ J = J2 ∧ r = 0) := by
  refine CtI.of (by decide +kernel) (Nat.le_of_ble_eq_true rfl) ?_
  intro p e s m below meth c B K
  have C := B.1
  refine g_lo (is := [0, 1]) (lo2 := [(0, .ref x), (1, .int p1)]) rfl ?_
  refine g_iload_n C 1 dX12_isDish_0 rfl rfl ?_
  refine g_iconst C (v := 0) dX12_isDish_1 (by decide) ?_
  refine g_aload_n C 0 dX12_isDish_2 rfl rfl ?_
  obtain ⟨b_813, hb_813, hb_813L, hb_813k, hb_813n, hb_813o⟩ := shp_a (W9 x hLx) hkx 14 14 389 rfl (by decide)
  refine g_getR C K hLx hkx f_12_13 hb_813 dX12_isDish_3 ?_
  refine g_iconst C (v := 1) dX12_isDish_6 (by decide) ?_
  refine h_iald C K hb_813L hb_813k (v := 0) (1) (by decide) (by decide) (by rw [hb_813n]; decide) (Z14 b_813 hb_813L hb_813k 1) dX12_isDish_7 ?_
  refine g_iconst C (v := 1) dX12_isDish_8 (by decide) ?_
  refine g_isub C (v := (-1)) dX12_isDish_9 (by decide) ?_
  refine g_callSI C K (c_Mod_isIn (p1) (0) ((-1))) s_12_149 rfl ⟨rfl, rfl⟩ ⟨Nat.le_of_ble_eq_true rfl, Nat.le_of_ble_eq_true rfl⟩ (Nat.le_of_ble_eq_true rfl) ⟨Nat.le_of_ble_eq_true rfl, Nat.le_of_ble_eq_true rfl⟩ dX12_isDish_10 rfl (st := []) (fun r_817 I_814 J_815 h_816 => ?_)
  obtain ⟨rfl, rfl, er_817⟩ := h_816
  have h0r_817 := er_817
  rw [z_in] at er_817
  subst er_817
  exact g_zret (ty := .boolean) (r := 0) B K rfl (by decide) (⟨rfl, rfl, rfl⟩) dX12_isDish_13
set_option maxRecDepth 100000 in
set_option maxHeartbeats 4000000 in
theorem m_sumOf0_84 {l : Launch} {D : va_G} {cy : Nat → ClassId} {L : List Nat} {κ ln : Nat → Nat} {R : Nat → Nat → Option Nat} {I : Nat → Nat → Int32} {J : Nat → Nat → Int64} {ow : Nat → Nat × Nat} (W9 : ∀ a ∈ L, Shp L κ ln R ow a) {x : Nat} (hLx : x ∈ L) (hkx : κ x = 12) (Z14 : Zk L κ 14 I) : CtI l yX12_sumOf cX12_sumOf 4 (some .int) { frames := 0, cells := 0, slots := 0, locals := 0 } D cy L κ ln R I J [.ref x, .int 84] (fun r I2 J2 => I = I2 ∧ J = J2 ∧ r = 0) := by
  refine CtI.of (by decide +kernel) (Nat.le_of_ble_eq_true rfl) ?_
  intro p e s m below meth c B K
  have C := B.1
  refine g_lo (is := [0, 1]) (lo2 := [(0, .ref x), (1, .int 84)]) rfl ?_
  refine g_iconst C (v := 0) dX12_sumOf_0 (by decide) ?_
  refine g_istore_n C dX12_sumOf_1 rfl (by decide) (lo2 := [(2, .int 0), (0, .ref x), (1, .int 84)]) rfl ?_
  refine g_iconst C (v := 0) dX12_sumOf_2 (by decide) ?_
  refine g_istore_n C dX12_sumOf_3 rfl (by decide) (lo2 := [(3, .int 0), (2, .int 0), (0, .ref x), (1, .int 84)]) rfl ?_
  refine g_iload_n C 0 dX12_sumOf_4 rfl rfl ?_
  refine g_aload_n C 2 dX12_sumOf_5 rfl rfl ?_
  obtain ⟨b_818, hb_818, hb_818L, hb_818k, hb_818n, hb_818o⟩ := shp_a (W9 x hLx) hkx 14 14 389 rfl (by decide)
  refine g_getR C K hLx hkx f_12_13 hb_818 dX12_sumOf_6 ?_
  refine g_iconst C (v := 0) dX12_sumOf_9 (by decide) ?_
  refine h_iald C K hb_818L hb_818k (v := 0) (0) (by decide) (by decide) (by rw [hb_818n]; decide) (Z14 b_818 hb_818L hb_818k 0) dX12_sumOf_10 ?_
  refine t_icmp_ge C (tgt := 31) (by decide) dX12_sumOf_11 (by decide) ?_
  refine g_iload_n C 1 dX12_sumOf_31 rfl rfl ?_
  exact g_zret (ty := .int) (r := 0) B K rfl rfl (⟨rfl, rfl, rfl⟩) dX12_sumOf_32
set_option maxRecDepth 100000 in
set_option maxHeartbeats 4000000 in
theorem m_sumOf0_98 {l : Launch} {D : va_G} {cy : Nat → ClassId} {L : List Nat} {κ ln : Nat → Nat} {R : Nat → Nat → Option Nat} {I : Nat → Nat → Int32} {J : Nat → Nat → Int64} {ow : Nat → Nat × Nat} (W9 : ∀ a ∈ L, Shp L κ ln R ow a) {x : Nat} (hLx : x ∈ L) (hkx : κ x = 12) (Z14 : Zk L κ 14 I) : CtI l yX12_sumOf cX12_sumOf 4 (some .int) { frames := 0, cells := 0, slots := 0, locals := 0 } D cy L κ ln R I J [.ref x, .int 98] (fun r I2 J2 => I = I2 ∧ J = J2 ∧ r = 0) := by
  refine CtI.of (by decide +kernel) (Nat.le_of_ble_eq_true rfl) ?_
  intro p e s m below meth c B K
  have C := B.1
  refine g_lo (is := [0, 1]) (lo2 := [(0, .ref x), (1, .int 98)]) rfl ?_
  refine g_iconst C (v := 0) dX12_sumOf_0 (by decide) ?_
  refine g_istore_n C dX12_sumOf_1 rfl (by decide) (lo2 := [(2, .int 0), (0, .ref x), (1, .int 98)]) rfl ?_
  refine g_iconst C (v := 0) dX12_sumOf_2 (by decide) ?_
  refine g_istore_n C dX12_sumOf_3 rfl (by decide) (lo2 := [(3, .int 0), (2, .int 0), (0, .ref x), (1, .int 98)]) rfl ?_
  refine g_iload_n C 0 dX12_sumOf_4 rfl rfl ?_
  refine g_aload_n C 2 dX12_sumOf_5 rfl rfl ?_
  obtain ⟨b_819, hb_819, hb_819L, hb_819k, hb_819n, hb_819o⟩ := shp_a (W9 x hLx) hkx 14 14 389 rfl (by decide)
  refine g_getR C K hLx hkx f_12_13 hb_819 dX12_sumOf_6 ?_
  refine g_iconst C (v := 0) dX12_sumOf_9 (by decide) ?_
  refine h_iald C K hb_819L hb_819k (v := 0) (0) (by decide) (by decide) (by rw [hb_819n]; decide) (Z14 b_819 hb_819L hb_819k 0) dX12_sumOf_10 ?_
  refine t_icmp_ge C (tgt := 31) (by decide) dX12_sumOf_11 (by decide) ?_
  refine g_iload_n C 1 dX12_sumOf_31 rfl rfl ?_
  exact g_zret (ty := .int) (r := 0) B K rfl rfl (⟨rfl, rfl, rfl⟩) dX12_sumOf_32
set_option maxRecDepth 100000 in
set_option maxHeartbeats 4000000 in
theorem m_living0 {l : Launch} {D : va_G} {cy : Nat → ClassId} {L : List Nat} {κ ln : Nat → Nat} {R : Nat → Nat → Option Nat} {I : Nat → Nat → Int32} {J : Nat → Nat → Int64} {ow : Nat → Nat × Nat} (W9 : ∀ a ∈ L, Shp L κ ln R ow a) {x : Nat} (hLx : x ∈ L) (hkx : κ x = 12) (Z14 : Zk L κ 14 I) : CtI l yX12_living cX12_living 1 (some .int) { frames := 0, cells := 0, slots := 0, locals := 0 } D cy L κ ln R I J [.ref x] (fun r I2 J2 => I = I2 ∧ J = J2 ∧ r = 0) := by
  refine CtI.of (by decide +kernel) (Nat.le_of_ble_eq_true rfl) ?_
  intro p e s m below meth c B K
  have C := B.1
  refine g_lo (is := [0]) (lo2 := [(0, .ref x)]) rfl ?_
  refine g_iconst C (v := 1) dX12_living_0 (by decide) ?_
  refine g_aload_n C 0 dX12_living_1 rfl rfl ?_
  obtain ⟨b_820, hb_820, hb_820L, hb_820k, hb_820n, hb_820o⟩ := shp_a (W9 x hLx) hkx 14 14 389 rfl (by decide)
  refine g_getR C K hLx hkx f_12_13 hb_820 dX12_living_2 ?_
  refine g_iconst C (v := 0) dX12_living_5 (by decide) ?_
  refine h_iald C K hb_820L hb_820k (v := 0) (0) (by decide) (by decide) (by rw [hb_820n]; decide) (Z14 b_820 hb_820L hb_820k 0) dX12_living_6 ?_
  refine g_ishl C (v := 1) dX12_living_7 (by decide) ?_
  refine g_iconst C (v := 1) dX12_living_8 (by decide) ?_
  refine g_isub C (v := 0) dX12_living_9 (by decide) ?_
  refine g_aload_n C 0 dX12_living_10 rfl rfl ?_
  refine g_getR C K hLx hkx f_12_13 hb_820 dX12_living_11 ?_
  refine g_bipush C (v := 73) dX12_living_14 (by decide) ?_
  refine h_iald C K hb_820L hb_820k (v := 0) (73) (by decide) (by decide) (by rw [hb_820n]; decide) (Z14 b_820 hb_820L hb_820k 73) dX12_living_16 ?_
  refine g_iconst C (v := (-1)) dX12_living_17 (by decide) ?_
  refine g_ixor C (v := (-1)) dX12_living_18 (by decide) ?_
  refine g_iand C (v := 0) dX12_living_19 (by decide) ?_
  exact g_zret (ty := .int) (r := 0) B K rfl rfl (⟨rfl, rfl, rfl⟩) dX12_living_20
set_option maxRecDepth 100000 in
set_option maxHeartbeats 4000000 in
theorem m_isSign0 {l : Launch} {D : va_G} {cy : Nat → ClassId} {L : List Nat} {κ ln : Nat → Nat} {R : Nat → Nat → Option Nat} {I : Nat → Nat → Int32} {J : Nat → Nat → Int64} {x : Nat} (hLx : x ∈ L) (hkx : κ x = 12) (h7 : I x 7 = 0) : CtI l yX12_isSign cX12_isSign 2 (some .boolean) { frames := 0, cells := 0, slots := 0, locals := 0 } D cy L κ ln R I J [.ref x, .int 40] (fun r I2 J2 => I = I2 ∧ J = J2 ∧ r = 0) := by
  refine CtI.of (by decide +kernel) (Nat.le_of_ble_eq_true rfl) ?_
  intro p e s m below meth c B K
  have C := B.1
  refine g_lo (is := [0, 1]) (lo2 := [(0, .ref x), (1, .int 40)]) rfl ?_
  refine g_aload_n C 0 dX12_isSign_0 rfl rfl ?_
  refine g_getI C K hLx hkx f_12_104 (v := 0) (h7) dX12_isSign_1 ?_
  refine g_iconst C (v := 4) dX12_isSign_4 (by decide) ?_
  refine t_icmp_ne C (tgt := 20) (by decide) dX12_isSign_5 (by decide) ?_
  refine g_iconst C (v := 0) dX12_isSign_20 (by decide) ?_
  exact g_zret (ty := .boolean) (r := 0) B K rfl (by decide) (⟨rfl, rfl, rfl⟩) dX12_isSign_21
set_option maxRecDepth 100000 in
set_option maxHeartbeats 4000000 in
theorem m_isWord0 {l : Launch} {D : va_G} {cy : Nat → ClassId} {L : List Nat} {κ ln : Nat → Nat} {R : Nat → Nat → Option Nat} {I : Nat → Nat → Int32} {J : Nat → Nat → Int64} {x : Nat} (hLx : x ∈ L) (hkx : κ x = 12) (h7 : I x 7 = 0) (k : Int32) : CtI l yX12_isWord cX12_isWord 2 (some .boolean) { frames := 0, cells := 0, slots := 0, locals := 0 } D cy L κ ln R I J [.ref x, .int k] (fun r I2 J2 => I = I2 ∧ J = J2 ∧ r = 0) := by
  refine CtI.of (by decide +kernel) (Nat.le_of_ble_eq_true rfl) ?_
  intro p e s m below meth c B K
  have C := B.1
  refine g_lo (is := [0, 1]) (lo2 := [(0, .ref x), (1, .int k)]) rfl ?_
  refine g_aload_n C 0 dX12_isWord_0 rfl rfl ?_
  refine g_getI C K hLx hkx f_12_104 (v := 0) (h7) dX12_isWord_1 ?_
  refine g_iconst C (v := 2) dX12_isWord_4 (by decide) ?_
  refine t_icmp_ne C (tgt := 24) (by decide) dX12_isWord_5 (by decide) ?_
  refine g_iconst C (v := 0) dX12_isWord_24 (by decide) ?_
  exact g_zret (ty := .boolean) (r := 0) B K rfl (by decide) (⟨rfl, rfl, rfl⟩) dX12_isWord_25
set_option maxRecDepth 100000 in
set_option maxHeartbeats 4000000 in
theorem m_thrown1 {l : Launch} {D : va_G} {cy : Nat → ClassId} {L : List Nat} {κ ln : Nat → Nat} {R : Nat → Nat → Option Nat} {I : Nat → Nat → Int32} {J : Nat → Nat → Int64} {x : Nat} (hLx : x ∈ L) (hkx : κ x = 12) (h0 : I x 0 = 1) : CtI l yX12_thrown cX12_thrown 1 (some .int) { frames := 0, cells := 0, slots := 0, locals := 0 } D cy L κ ln R I J [.ref x] (fun r I2 J2 => I = I2 ∧ J = J2 ∧ r = 1) := by
  refine CtI.of (by decide +kernel) (Nat.le_of_ble_eq_true rfl) ?_
  intro p e s m below meth c B K
  have C := B.1
  refine g_lo (is := [0]) (lo2 := [(0, .ref x)]) rfl ?_
  refine g_aload_n C 0 dX12_thrown_0 rfl rfl ?_
  refine g_getI C K hLx hkx f_12_82 (v := 1) (h0) dX12_thrown_1 ?_
  exact g_zret (ty := .int) (r := 1) B K rfl rfl (⟨rfl, rfl, rfl⟩) dX12_thrown_4
set_option maxRecDepth 100000 in
set_option maxHeartbeats 4000000 in
theorem m_refuse {l : Launch} {D : va_G} {cy : Nat → ClassId} {L : List Nat} {κ ln : Nat → Nat} {R : Nat → Nat → Option Nat} {I : Nat → Nat → Int32} {J : Nat → Nat → Int64} {x : Nat} (hLx : x ∈ L) (hkx : κ x = 12)  : CtI l yX12_refuse cX12_refuse 1 (some .int) { frames := 0, cells := 0, slots := 0, locals := 0 } D cy L κ ln R I J [.ref x] (fun r I2 J2 => J = J2 ∧ Fk κ [12] I I2 ∧ I2 x 0 = 1 ∧ r = 0) := by
  refine CtI.of (by decide +kernel) (Nat.le_of_ble_eq_true rfl) ?_
  intro p e s m below meth c B K
  have C := B.1
  refine g_lo (is := [0]) (lo2 := [(0, .ref x)]) rfl ?_
  refine g_aload_n C 0 dX12_refuse_0 rfl rfl ?_
  refine g_iconst C (v := 1) dX12_refuse_1 (by decide) ?_
  refine h_putI C K hLx hkx f_12_82 p_12_0 dX12_refuse_2 (fun I_821 hI_821 => ?_)
  refine g_iconst C (v := 0) dX12_refuse_5 (by decide) ?_
  exact g_zret (ty := .int) (r := 0) B K rfl rfl (⟨rfl, (Fk.rf).u2 hI_821 hkx (by decide), by rw [hI_821]; exact u2_s, rfl⟩) dX12_refuse_6
set_option maxRecDepth 100000 in
set_option maxHeartbeats 4000000 in
theorem m_take0 {l : Launch} {D : va_G} {cy : Nat → ClassId} {L : List Nat} {κ ln : Nat → Nat} {R : Nat → Nat → Option Nat} {I : Nat → Nat → Int32} {J : Nat → Nat → Int64} {x : Nat} (hLx : x ∈ L) (hkx : κ x = 12) (h2 : I x 2 = 0) : CtI l yX12_take cX12_take 2 (some .int) { frames := 0, cells := 0, slots := 0, locals := 0 } D cy L κ ln R I J [.ref x] (fun r I2 J2 => J = J2 ∧ Fk κ [12] I I2 ∧ (∀ j, j ≠ 2 → I2 x j = I x j) ∧ r = 0) := by
  refine CtI.of (by decide +kernel) (Nat.le_of_ble_eq_true rfl) ?_
  intro p e s m below meth c B K
  have C := B.1
  refine g_lo (is := [0]) (lo2 := [(0, .ref x)]) rfl ?_
  refine g_aload_n C 0 dX12_take_0 rfl rfl ?_
  refine g_getI C K hLx hkx f_12_85 (v := 0) (h2) dX12_take_1 ?_
  refine g_istore_n C dX12_take_4 rfl (by decide) (lo2 := [(1, .int 0), (0, .ref x)]) rfl ?_
  refine g_aload_n C 1 dX12_take_5 rfl rfl ?_
  refine g_iconst C (v := 0) dX12_take_6 (by decide) ?_
  refine h_putI C K hLx hkx f_12_85 p_12_2 dX12_take_7 (fun I_822 hI_822 => ?_)
  refine g_iload_n C 0 dX12_take_10 rfl rfl ?_
  exact g_zret (ty := .int) (r := 0) B K rfl rfl (⟨rfl, (Fk.rf).u2 hI_822 hkx (by decide), fun j h0 => by rw [hI_822, u2_j h0], rfl⟩) dX12_take_11
set_option maxRecDepth 100000 in
set_option maxHeartbeats 4000000 in
theorem m_bad0 {l : Launch} {D : va_G} {cy : Nat → ClassId} {L : List Nat} {κ ln : Nat → Nat} {R : Nat → Nat → Option Nat} {I : Nat → Nat → Int32} {J : Nat → Nat → Int64} {x : Nat} (hLx : x ∈ L) (hkx : κ x = 12) (h7 : I x 7 = 0) (h6 : I x 6 = 0) : CtI l yX12_bad cX12_bad 2 (some .boolean) { frames := 0, cells := 0, slots := 0, locals := 0 } D cy L κ ln R I J [.ref x, .int 1] (fun r I2 J2 => J = J2 ∧ Fk κ [12] I I2 ∧ I2 x 10 = 1 ∧ I2 x 11 = 0 ∧ r = 0) := by
  refine CtI.of (by decide +kernel) (Nat.le_of_ble_eq_true rfl) ?_
  intro p e s m below meth c B K
  have C := B.1
  refine g_lo (is := [0, 1]) (lo2 := [(0, .ref x), (1, .int 1)]) rfl ?_
  refine g_aload_n C 0 dX12_bad_0 rfl rfl ?_
  refine g_aload_n C 0 dX12_bad_1 rfl rfl ?_
  refine g_getI C K hLx hkx f_12_104 (v := 0) (h7) dX12_bad_2 ?_
  refine g_iconst C (v := 1) dX12_bad_5 (by decide) ?_
  refine t_icmp_ne C (tgt := 13) (by decide) dX12_bad_6 (by decide) ?_
  refine g_iload_n C 1 dX12_bad_13 rfl rfl ?_
  refine h_putI C K hLx hkx f_12_140 p_12_10 dX12_bad_14 (fun I_823 hI_823 => ?_)
  refine g_aload_n C 0 dX12_bad_17 rfl rfl ?_
  refine g_aload_n C 0 dX12_bad_18 rfl rfl ?_
  refine g_getI C K hLx hkx f_12_98 (v := 0) (by rw [hI_823, u2_j (by decide)]; exact h6) dX12_bad_19 ?_
  refine h_putI C K hLx hkx f_12_143 p_12_11 dX12_bad_22 (fun I_824 hI_824 => ?_)
  refine g_iconst C (v := 0) dX12_bad_25 (by decide) ?_
  exact g_zret (ty := .boolean) (r := 0) B K rfl (by decide) (⟨rfl, ((Fk.rf).u2 hI_823 hkx (by decide)).u2 hI_824 hkx (by decide), by rw [hI_824, u2_j (by decide), hI_823]; exact u2_s, by rw [hI_824]; exact u2_s, rfl⟩) dX12_bad_26
set_option maxRecDepth 100000 in
set_option maxHeartbeats 4000000 in
theorem m_go0_900 {l : Launch} {D : va_G} {cy : Nat → ClassId} {L : List Nat} {κ ln : Nat → Nat} {R : Nat → Nat → Option Nat} {I : Nat → Nat → Int32} {J : Nat → Nat → Int64} {x : Nat} (hLx : x ∈ L) (hkx : κ x = 12) (h5 : I x 5 = 0) (h3 : I x 3 = 0) (h4 : I x 4 = 900) : CtV l yX12_go cX12_go 5 none { frames := 0, cells := 0, slots := 0, locals := 0 } D cy L κ ln R I J [.ref x] (fun I2 J2 => J = J2 ∧ Fk κ [12] I I2 ∧ (∀ j, j ≠ 6 → j ≠ 7 → I2 x j = I x j) ∧ I2 x 6 = 0 ∧ I2 x 7 = 0) := by
  refine CtV.of (by decide +kernel) (Nat.le_of_ble_eq_true rfl) ?_
  intro p e s m below meth c B K
  have C := B.1
  refine g_lo (is := [0]) (lo2 := [(0, .ref x)]) rfl ?_
  refine g_aload_n C 0 dX12_go_0 rfl rfl ?_
  refine g_getI C K hLx hkx f_12_95 (v := 0) (h5) dX12_go_1 ?_
  refine g_aload_n C 0 dX12_go_4 rfl rfl ?_
  refine g_getI C K hLx hkx f_12_92 (v := 0) (h3) dX12_go_5 ?_
  refine t_icmp_ge C (tgt := 52) (by decide) dX12_go_8 (by decide) ?_
  refine g_aload_n C 0 dX12_go_52 rfl rfl ?_
  refine g_aload_n C 0 dX12_go_53 rfl rfl ?_
  refine g_getI C K hLx hkx f_12_95 (v := 0) (h5) dX12_go_54 ?_
  refine h_putI C K hLx hkx f_12_98 p_12_6 dX12_go_57 (fun I_825 hI_825 => ?_)
  refine g_aload_n C 0 dX12_go_60 rfl rfl ?_
  refine g_getI C K hLx hkx f_12_92 (v := 0) (by rw [hI_825, u2_j (by decide)]; exact h3) dX12_go_61 ?_
  refine g_aload_n C 0 dX12_go_64 rfl rfl ?_
  refine g_getI C K hLx hkx f_12_101 (v := 900) (by rw [hI_825, u2_j (by decide)]; exact h4) dX12_go_65 ?_
  refine t_icmp_le C (tgt := 96) (by decide) dX12_go_68 (by decide) ?_
  refine g_aload_n C 0 dX12_go_96 rfl rfl ?_
  refine g_getI C K hLx hkx f_12_95 (v := 0) (by rw [hI_825, u2_j (by decide)]; exact h5) dX12_go_97 ?_
  refine g_aload_n C 0 dX12_go_100 rfl rfl ?_
  refine g_getI C K hLx hkx f_12_92 (v := 0) (by rw [hI_825, u2_j (by decide)]; exact h3) dX12_go_101 ?_
  refine n_icmp_lt C (tgt := 113) (by decide) dX12_go_104 (by decide) ?_
  refine g_aload_n C 0 dX12_go_107 rfl rfl ?_
  refine g_iconst C (v := 0) dX12_go_108 (by decide) ?_
  refine h_putI C K hLx hkx f_12_104 p_12_7 dX12_go_109 (fun I_826 hI_826 => ?_)
  exact g_vret B K rfl (⟨rfl, ((Fk.rf).u2 hI_825 hkx (by decide)).u2 hI_826 hkx (by decide), fun j h0 h1 => by rw [hI_826, u2_j h1, hI_825, u2_j h0], by rw [hI_826, u2_j (by decide), hI_825]; exact u2_s, by rw [hI_826]; exact u2_s⟩) dX12_go_112
set_option maxRecDepth 100000 in
set_option maxHeartbeats 4000000 in
theorem m_begin0_900 {l : Launch} {D : va_G} {cy : Nat → ClassId} {L : List Nat} {κ ln : Nat → Nat} {R : Nat → Nat → Option Nat} {I : Nat → Nat → Int32} {J : Nat → Nat → Int64} {x : Nat} (hLx : x ∈ L) (hkx : κ x = 12) (h2 : I x 2 = 0) : CtV l yX12_begin cX12_begin 2 none { frames := 1, cells := 0, slots := 0, locals := 100 } D cy L κ ln R I J [.ref x, .int 900] (fun I2 J2 => J = J2 ∧ Fk κ [12] I I2 ∧ I2 x 6 = 0 ∧ I2 x 7 = 0 ∧ I2 x 10 = 0) := by
  refine CtV.of (by decide +kernel) (Nat.le_of_ble_eq_true rfl) ?_
  intro p e s m below meth c B K
  have C := B.1
  refine g_lo (is := [0, 1]) (lo2 := [(0, .ref x), (1, .int 900)]) rfl ?_
  refine g_aload_n C 0 dX12_begin_0 rfl rfl ?_
  refine g_iconst C (v := 0) dX12_begin_1 (by decide) ?_
  refine h_putI C K hLx hkx f_12_82 p_12_0 dX12_begin_2 (fun I_827 hI_827 => ?_)
  refine g_aload_n C 0 dX12_begin_5 rfl rfl ?_
  refine g_aload_n C 0 dX12_begin_6 rfl rfl ?_
  refine g_callVI C K (m_take0 hLx hkx (by rw [hI_827, u2_j (by decide)]; exact h2)) hLx hkx (by decide) rfl v_12_162 rfl ⟨rfl, rfl⟩ ⟨Nat.le_of_ble_eq_true rfl, Nat.le_of_ble_eq_true rfl⟩ (Nat.le_of_ble_eq_true rfl) ⟨Nat.le_of_ble_eq_true rfl, Nat.le_of_ble_eq_true rfl⟩ dX12_begin_7 rfl (st := [.ref x]) (fun r_831 I_828 J_829 h_830 => ?_)
  obtain ⟨rfl, f_832, v_834, rfl⟩ := h_830
  refine h_putI C K hLx hkx f_12_92 p_12_3 dX12_begin_10 (fun I_835 hI_835 => ?_)
  refine g_aload_n C 0 dX12_begin_13 rfl rfl ?_
  refine g_iload_n C 1 dX12_begin_14 rfl rfl ?_
  refine h_putI C K hLx hkx f_12_101 p_12_4 dX12_begin_15 (fun I_836 hI_836 => ?_)
  refine g_aload_n C 0 dX12_begin_18 rfl rfl ?_
  refine g_iconst C (v := 0) dX12_begin_19 (by decide) ?_
  refine h_putI C K hLx hkx f_12_140 p_12_10 dX12_begin_20 (fun I_837 hI_837 => ?_)
  refine g_aload_n C 0 dX12_begin_23 rfl rfl ?_
  refine g_iconst C (v := 0) dX12_begin_24 (by decide) ?_
  refine h_putI C K hLx hkx f_12_95 p_12_5 dX12_begin_25 (fun I_838 hI_838 => ?_)
  refine g_aload_n C 0 dX12_begin_28 rfl rfl ?_
  refine g_callVV C K (m_go0_900 hLx hkx (by rw [hI_838]; exact u2_s) (by rw [hI_838, u2_j (by decide), hI_837, u2_j (by decide), hI_836, u2_j (by decide), hI_835]; exact u2_s) (by rw [hI_838, u2_j (by decide), hI_837, u2_j (by decide), hI_836]; exact u2_s)) hLx hkx (by decide) rfl v_12_156 rfl ⟨rfl, rfl⟩ ⟨Nat.le_of_ble_eq_true rfl, Nat.le_of_ble_eq_true rfl⟩ (Nat.le_of_ble_eq_true rfl) ⟨Nat.le_of_ble_eq_true rfl, Nat.le_of_ble_eq_true rfl⟩ dX12_begin_29 rfl (st := []) (fun I_839 J_840 h_841 => ?_)
  obtain ⟨rfl, f_843, v_845, v_846, v_847⟩ := h_841
  exact g_vret B K rfl (⟨rfl, (((((((Fk.rf).u2 hI_827 hkx (by decide)).tr f_832 (by decide)).u2 hI_835 hkx (by decide)).u2 hI_836 hkx (by decide)).u2 hI_837 hkx (by decide)).u2 hI_838 hkx (by decide)).tr f_843 (by decide), v_846, v_847, by rw [v_845 10 (by decide) (by decide), hI_838, u2_j (by decide), hI_837]; exact u2_s⟩) dX12_begin_32
set_option maxRecDepth 100000 in
set_option maxHeartbeats 4000000 in
theorem m_go0_400 {l : Launch} {D : va_G} {cy : Nat → ClassId} {L : List Nat} {κ ln : Nat → Nat} {R : Nat → Nat → Option Nat} {I : Nat → Nat → Int32} {J : Nat → Nat → Int64} {x : Nat} (hLx : x ∈ L) (hkx : κ x = 12) (h5 : I x 5 = 0) (h3 : I x 3 = 0) (h4 : I x 4 = 400) : CtV l yX12_go cX12_go 5 none { frames := 0, cells := 0, slots := 0, locals := 0 } D cy L κ ln R I J [.ref x] (fun I2 J2 => J = J2 ∧ Fk κ [12] I I2 ∧ (∀ j, j ≠ 6 → j ≠ 7 → I2 x j = I x j) ∧ I2 x 6 = 0 ∧ I2 x 7 = 0) := by
  refine CtV.of (by decide +kernel) (Nat.le_of_ble_eq_true rfl) ?_
  intro p e s m below meth c B K
  have C := B.1
  refine g_lo (is := [0]) (lo2 := [(0, .ref x)]) rfl ?_
  refine g_aload_n C 0 dX12_go_0 rfl rfl ?_
  refine g_getI C K hLx hkx f_12_95 (v := 0) (h5) dX12_go_1 ?_
  refine g_aload_n C 0 dX12_go_4 rfl rfl ?_
  refine g_getI C K hLx hkx f_12_92 (v := 0) (h3) dX12_go_5 ?_
  refine t_icmp_ge C (tgt := 52) (by decide) dX12_go_8 (by decide) ?_
  refine g_aload_n C 0 dX12_go_52 rfl rfl ?_
  refine g_aload_n C 0 dX12_go_53 rfl rfl ?_
  refine g_getI C K hLx hkx f_12_95 (v := 0) (h5) dX12_go_54 ?_
  refine h_putI C K hLx hkx f_12_98 p_12_6 dX12_go_57 (fun I_848 hI_848 => ?_)
  refine g_aload_n C 0 dX12_go_60 rfl rfl ?_
  refine g_getI C K hLx hkx f_12_92 (v := 0) (by rw [hI_848, u2_j (by decide)]; exact h3) dX12_go_61 ?_
  refine g_aload_n C 0 dX12_go_64 rfl rfl ?_
  refine g_getI C K hLx hkx f_12_101 (v := 400) (by rw [hI_848, u2_j (by decide)]; exact h4) dX12_go_65 ?_
  refine t_icmp_le C (tgt := 96) (by decide) dX12_go_68 (by decide) ?_
  refine g_aload_n C 0 dX12_go_96 rfl rfl ?_
  refine g_getI C K hLx hkx f_12_95 (v := 0) (by rw [hI_848, u2_j (by decide)]; exact h5) dX12_go_97 ?_
  refine g_aload_n C 0 dX12_go_100 rfl rfl ?_
  refine g_getI C K hLx hkx f_12_92 (v := 0) (by rw [hI_848, u2_j (by decide)]; exact h3) dX12_go_101 ?_
  refine n_icmp_lt C (tgt := 113) (by decide) dX12_go_104 (by decide) ?_
  refine g_aload_n C 0 dX12_go_107 rfl rfl ?_
  refine g_iconst C (v := 0) dX12_go_108 (by decide) ?_
  refine h_putI C K hLx hkx f_12_104 p_12_7 dX12_go_109 (fun I_849 hI_849 => ?_)
  exact g_vret B K rfl (⟨rfl, ((Fk.rf).u2 hI_848 hkx (by decide)).u2 hI_849 hkx (by decide), fun j h0 h1 => by rw [hI_849, u2_j h1, hI_848, u2_j h0], by rw [hI_849, u2_j (by decide), hI_848]; exact u2_s, by rw [hI_849]; exact u2_s⟩) dX12_go_112
set_option maxRecDepth 100000 in
set_option maxHeartbeats 4000000 in
theorem m_begin0_400 {l : Launch} {D : va_G} {cy : Nat → ClassId} {L : List Nat} {κ ln : Nat → Nat} {R : Nat → Nat → Option Nat} {I : Nat → Nat → Int32} {J : Nat → Nat → Int64} {x : Nat} (hLx : x ∈ L) (hkx : κ x = 12) (h2 : I x 2 = 0) : CtV l yX12_begin cX12_begin 2 none { frames := 1, cells := 0, slots := 0, locals := 100 } D cy L κ ln R I J [.ref x, .int 400] (fun I2 J2 => J = J2 ∧ Fk κ [12] I I2 ∧ I2 x 6 = 0 ∧ I2 x 7 = 0 ∧ I2 x 10 = 0) := by
  refine CtV.of (by decide +kernel) (Nat.le_of_ble_eq_true rfl) ?_
  intro p e s m below meth c B K
  have C := B.1
  refine g_lo (is := [0, 1]) (lo2 := [(0, .ref x), (1, .int 400)]) rfl ?_
  refine g_aload_n C 0 dX12_begin_0 rfl rfl ?_
  refine g_iconst C (v := 0) dX12_begin_1 (by decide) ?_
  refine h_putI C K hLx hkx f_12_82 p_12_0 dX12_begin_2 (fun I_850 hI_850 => ?_)
  refine g_aload_n C 0 dX12_begin_5 rfl rfl ?_
  refine g_aload_n C 0 dX12_begin_6 rfl rfl ?_
  refine g_callVI C K (m_take0 hLx hkx (by rw [hI_850, u2_j (by decide)]; exact h2)) hLx hkx (by decide) rfl v_12_162 rfl ⟨rfl, rfl⟩ ⟨Nat.le_of_ble_eq_true rfl, Nat.le_of_ble_eq_true rfl⟩ (Nat.le_of_ble_eq_true rfl) ⟨Nat.le_of_ble_eq_true rfl, Nat.le_of_ble_eq_true rfl⟩ dX12_begin_7 rfl (st := [.ref x]) (fun r_854 I_851 J_852 h_853 => ?_)
  obtain ⟨rfl, f_855, v_857, rfl⟩ := h_853
  refine h_putI C K hLx hkx f_12_92 p_12_3 dX12_begin_10 (fun I_858 hI_858 => ?_)
  refine g_aload_n C 0 dX12_begin_13 rfl rfl ?_
  refine g_iload_n C 1 dX12_begin_14 rfl rfl ?_
  refine h_putI C K hLx hkx f_12_101 p_12_4 dX12_begin_15 (fun I_859 hI_859 => ?_)
  refine g_aload_n C 0 dX12_begin_18 rfl rfl ?_
  refine g_iconst C (v := 0) dX12_begin_19 (by decide) ?_
  refine h_putI C K hLx hkx f_12_140 p_12_10 dX12_begin_20 (fun I_860 hI_860 => ?_)
  refine g_aload_n C 0 dX12_begin_23 rfl rfl ?_
  refine g_iconst C (v := 0) dX12_begin_24 (by decide) ?_
  refine h_putI C K hLx hkx f_12_95 p_12_5 dX12_begin_25 (fun I_861 hI_861 => ?_)
  refine g_aload_n C 0 dX12_begin_28 rfl rfl ?_
  refine g_callVV C K (m_go0_400 hLx hkx (by rw [hI_861]; exact u2_s) (by rw [hI_861, u2_j (by decide), hI_860, u2_j (by decide), hI_859, u2_j (by decide), hI_858]; exact u2_s) (by rw [hI_861, u2_j (by decide), hI_860, u2_j (by decide), hI_859]; exact u2_s)) hLx hkx (by decide) rfl v_12_156 rfl ⟨rfl, rfl⟩ ⟨Nat.le_of_ble_eq_true rfl, Nat.le_of_ble_eq_true rfl⟩ (Nat.le_of_ble_eq_true rfl) ⟨Nat.le_of_ble_eq_true rfl, Nat.le_of_ble_eq_true rfl⟩ dX12_begin_29 rfl (st := []) (fun I_862 J_863 h_864 => ?_)
  obtain ⟨rfl, f_866, v_868, v_869, v_870⟩ := h_864
  exact g_vret B K rfl (⟨rfl, (((((((Fk.rf).u2 hI_850 hkx (by decide)).tr f_855 (by decide)).u2 hI_858 hkx (by decide)).u2 hI_859 hkx (by decide)).u2 hI_860 hkx (by decide)).u2 hI_861 hkx (by decide)).tr f_866 (by decide), v_869, v_870, by rw [v_868 10 (by decide) (by decide), hI_861, u2_j (by decide), hI_860]; exact u2_s⟩) dX12_begin_32
set_option maxRecDepth 100000 in
set_option maxHeartbeats 4000000 in
theorem m_go0_200 {l : Launch} {D : va_G} {cy : Nat → ClassId} {L : List Nat} {κ ln : Nat → Nat} {R : Nat → Nat → Option Nat} {I : Nat → Nat → Int32} {J : Nat → Nat → Int64} {x : Nat} (hLx : x ∈ L) (hkx : κ x = 12) (h5 : I x 5 = 0) (h3 : I x 3 = 0) (h4 : I x 4 = 200) : CtV l yX12_go cX12_go 5 none { frames := 0, cells := 0, slots := 0, locals := 0 } D cy L κ ln R I J [.ref x] (fun I2 J2 => J = J2 ∧ Fk κ [12] I I2 ∧ (∀ j, j ≠ 6 → j ≠ 7 → I2 x j = I x j) ∧ I2 x 6 = 0 ∧ I2 x 7 = 0) := by
  refine CtV.of (by decide +kernel) (Nat.le_of_ble_eq_true rfl) ?_
  intro p e s m below meth c B K
  have C := B.1
  refine g_lo (is := [0]) (lo2 := [(0, .ref x)]) rfl ?_
  refine g_aload_n C 0 dX12_go_0 rfl rfl ?_
  refine g_getI C K hLx hkx f_12_95 (v := 0) (h5) dX12_go_1 ?_
  refine g_aload_n C 0 dX12_go_4 rfl rfl ?_
  refine g_getI C K hLx hkx f_12_92 (v := 0) (h3) dX12_go_5 ?_
  refine t_icmp_ge C (tgt := 52) (by decide) dX12_go_8 (by decide) ?_
  refine g_aload_n C 0 dX12_go_52 rfl rfl ?_
  refine g_aload_n C 0 dX12_go_53 rfl rfl ?_
  refine g_getI C K hLx hkx f_12_95 (v := 0) (h5) dX12_go_54 ?_
  refine h_putI C K hLx hkx f_12_98 p_12_6 dX12_go_57 (fun I_871 hI_871 => ?_)
  refine g_aload_n C 0 dX12_go_60 rfl rfl ?_
  refine g_getI C K hLx hkx f_12_92 (v := 0) (by rw [hI_871, u2_j (by decide)]; exact h3) dX12_go_61 ?_
  refine g_aload_n C 0 dX12_go_64 rfl rfl ?_
  refine g_getI C K hLx hkx f_12_101 (v := 200) (by rw [hI_871, u2_j (by decide)]; exact h4) dX12_go_65 ?_
  refine t_icmp_le C (tgt := 96) (by decide) dX12_go_68 (by decide) ?_
  refine g_aload_n C 0 dX12_go_96 rfl rfl ?_
  refine g_getI C K hLx hkx f_12_95 (v := 0) (by rw [hI_871, u2_j (by decide)]; exact h5) dX12_go_97 ?_
  refine g_aload_n C 0 dX12_go_100 rfl rfl ?_
  refine g_getI C K hLx hkx f_12_92 (v := 0) (by rw [hI_871, u2_j (by decide)]; exact h3) dX12_go_101 ?_
  refine n_icmp_lt C (tgt := 113) (by decide) dX12_go_104 (by decide) ?_
  refine g_aload_n C 0 dX12_go_107 rfl rfl ?_
  refine g_iconst C (v := 0) dX12_go_108 (by decide) ?_
  refine h_putI C K hLx hkx f_12_104 p_12_7 dX12_go_109 (fun I_872 hI_872 => ?_)
  exact g_vret B K rfl (⟨rfl, ((Fk.rf).u2 hI_871 hkx (by decide)).u2 hI_872 hkx (by decide), fun j h0 h1 => by rw [hI_872, u2_j h1, hI_871, u2_j h0], by rw [hI_872, u2_j (by decide), hI_871]; exact u2_s, by rw [hI_872]; exact u2_s⟩) dX12_go_112
set_option maxRecDepth 100000 in
set_option maxHeartbeats 4000000 in
theorem m_begin0_200 {l : Launch} {D : va_G} {cy : Nat → ClassId} {L : List Nat} {κ ln : Nat → Nat} {R : Nat → Nat → Option Nat} {I : Nat → Nat → Int32} {J : Nat → Nat → Int64} {x : Nat} (hLx : x ∈ L) (hkx : κ x = 12) (h2 : I x 2 = 0) : CtV l yX12_begin cX12_begin 2 none { frames := 1, cells := 0, slots := 0, locals := 100 } D cy L κ ln R I J [.ref x, .int 200] (fun I2 J2 => J = J2 ∧ Fk κ [12] I I2 ∧ I2 x 6 = 0 ∧ I2 x 7 = 0 ∧ I2 x 10 = 0) := by
  refine CtV.of (by decide +kernel) (Nat.le_of_ble_eq_true rfl) ?_
  intro p e s m below meth c B K
  have C := B.1
  refine g_lo (is := [0, 1]) (lo2 := [(0, .ref x), (1, .int 200)]) rfl ?_
  refine g_aload_n C 0 dX12_begin_0 rfl rfl ?_
  refine g_iconst C (v := 0) dX12_begin_1 (by decide) ?_
  refine h_putI C K hLx hkx f_12_82 p_12_0 dX12_begin_2 (fun I_873 hI_873 => ?_)
  refine g_aload_n C 0 dX12_begin_5 rfl rfl ?_
  refine g_aload_n C 0 dX12_begin_6 rfl rfl ?_
  refine g_callVI C K (m_take0 hLx hkx (by rw [hI_873, u2_j (by decide)]; exact h2)) hLx hkx (by decide) rfl v_12_162 rfl ⟨rfl, rfl⟩ ⟨Nat.le_of_ble_eq_true rfl, Nat.le_of_ble_eq_true rfl⟩ (Nat.le_of_ble_eq_true rfl) ⟨Nat.le_of_ble_eq_true rfl, Nat.le_of_ble_eq_true rfl⟩ dX12_begin_7 rfl (st := [.ref x]) (fun r_877 I_874 J_875 h_876 => ?_)
  obtain ⟨rfl, f_878, v_880, rfl⟩ := h_876
  refine h_putI C K hLx hkx f_12_92 p_12_3 dX12_begin_10 (fun I_881 hI_881 => ?_)
  refine g_aload_n C 0 dX12_begin_13 rfl rfl ?_
  refine g_iload_n C 1 dX12_begin_14 rfl rfl ?_
  refine h_putI C K hLx hkx f_12_101 p_12_4 dX12_begin_15 (fun I_882 hI_882 => ?_)
  refine g_aload_n C 0 dX12_begin_18 rfl rfl ?_
  refine g_iconst C (v := 0) dX12_begin_19 (by decide) ?_
  refine h_putI C K hLx hkx f_12_140 p_12_10 dX12_begin_20 (fun I_883 hI_883 => ?_)
  refine g_aload_n C 0 dX12_begin_23 rfl rfl ?_
  refine g_iconst C (v := 0) dX12_begin_24 (by decide) ?_
  refine h_putI C K hLx hkx f_12_95 p_12_5 dX12_begin_25 (fun I_884 hI_884 => ?_)
  refine g_aload_n C 0 dX12_begin_28 rfl rfl ?_
  refine g_callVV C K (m_go0_200 hLx hkx (by rw [hI_884]; exact u2_s) (by rw [hI_884, u2_j (by decide), hI_883, u2_j (by decide), hI_882, u2_j (by decide), hI_881]; exact u2_s) (by rw [hI_884, u2_j (by decide), hI_883, u2_j (by decide), hI_882]; exact u2_s)) hLx hkx (by decide) rfl v_12_156 rfl ⟨rfl, rfl⟩ ⟨Nat.le_of_ble_eq_true rfl, Nat.le_of_ble_eq_true rfl⟩ (Nat.le_of_ble_eq_true rfl) ⟨Nat.le_of_ble_eq_true rfl, Nat.le_of_ble_eq_true rfl⟩ dX12_begin_29 rfl (st := []) (fun I_885 J_886 h_887 => ?_)
  obtain ⟨rfl, f_889, v_891, v_892, v_893⟩ := h_887
  exact g_vret B K rfl (⟨rfl, (((((((Fk.rf).u2 hI_873 hkx (by decide)).tr f_878 (by decide)).u2 hI_881 hkx (by decide)).u2 hI_882 hkx (by decide)).u2 hI_883 hkx (by decide)).u2 hI_884 hkx (by decide)).tr f_889 (by decide), v_892, v_893, by rw [v_891 10 (by decide) (by decide), hI_884, u2_j (by decide), hI_883]; exact u2_s⟩) dX12_begin_32
set_option maxRecDepth 100000 in
set_option maxHeartbeats 4000000 in
theorem m_startSo {l : Launch} {D : va_G} {cy : Nat → ClassId} {L : List Nat} {κ ln : Nat → Nat} {R : Nat → Nat → Option Nat} {I : Nat → Nat → Int32} {J : Nat → Nat → Int64} {ow : Nat → Nat × Nat} (W9 : ∀ a ∈ L, Shp L κ ln R ow a) {x : Nat} (hLx : x ∈ L) (hkx : κ x = 12)  : CtV l yX12_startSo cX12_startSo 2 none { frames := 0, cells := 0, slots := 0, locals := 0 } D cy L κ ln R I J [.ref x] (fun I2 J2 => J = J2 ∧ Fk κ [14] I I2) := by
  refine CtV.of (by decide +kernel) (Nat.le_of_ble_eq_true rfl) ?_
  intro p e s m below meth c B K
  have C := B.1
  refine g_lo (is := [0]) (lo2 := [(0, .ref x)]) rfl ?_
  refine g_bipush C (v := 72) dX12_startSo_0 (by decide) ?_
  refine g_istore_n C dX12_startSo_2 rfl (by decide) (lo2 := [(1, .int 72), (0, .ref x)]) rfl ?_
  have lp_901 : ∀ (n_897 i_896 : Nat) (I_894 : Nat → Nat → Int32) (J_895 : Nat → Nat → Int64), i_896 + n_897 = 389 → J = J_895 → Fk κ [14] I I_894 → WG p l e { frames := 0, cells := 0, slots := 0, locals := 0 } s m ([.ref x] : List Value).toArray below meth c 2 0 0 (MQ below (Qv_ D cy L κ ln R (fun I2 J2 => J = J2 ∧ Fk κ [14] I I2)) ([.ref x] : List Value).toArray s 0 0 (Al_ L)) D cy (Al_ L) s.heap L κ ln R I_894 J_895 3 [(1, .int (nI i_896)), (0, .ref x)] [] := by
    intro n_897
    induction n_897 with
    | zero =>
      intro i_896 I_894 J_895 hi_900 e9 F_898
      subst e9
      refine g_iload_n C 0 dX12_startSo_3 rfl rfl ?_
      refine g_sipush C (v := 389) dX12_startSo_4 (by decide) ?_
      refine t_icmp_ge C (tgt := 23) (lt_ge (n := i_896) (k := 389) (by omega) (by omega)) dX12_startSo_7 (by decide) ?_
      refine g_iconst C (v := 0) dX12_startSo_23 (by decide) ?_
      refine g_istore_n C dX12_startSo_24 rfl (by decide) (lo2 := [(1, .int 0), (0, .ref x)]) rfl ?_
      have lp_909 : ∀ (n_905 i_904 : Nat) (I_902 : Nat → Nat → Int32) (J_903 : Nat → Nat → Int64), i_904 + n_905 = 6 → J = J_903 → Fk κ [14] I_894 I_902 → WG p l e { frames := 0, cells := 0, slots := 0, locals := 0 } s m ([.ref x] : List Value).toArray below meth c 2 0 0 (MQ below (Qv_ D cy L κ ln R (fun I2 J2 => J = J2 ∧ Fk κ [14] I I2)) ([.ref x] : List Value).toArray s 0 0 (Al_ L)) D cy (Al_ L) s.heap L κ ln R I_902 J_903 25 [(1, .int (nI i_904)), (0, .ref x)] [] := by
        intro n_905
        induction n_905 with
        | zero =>
          intro i_904 I_902 J_903 hi_908 e9 F_906
          subst e9
          refine g_iload_n C 0 dX12_startSo_25 rfl rfl ?_
          refine g_bipush C (v := 6) dX12_startSo_26 (by decide) ?_
          refine t_icmp_ge C (tgt := 55) (lt_ge (n := i_904) (k := 6) (by omega) (by omega)) dX12_startSo_28 (by decide) ?_
          refine g_iconst C (v := 0) dX12_startSo_55 (by decide) ?_
          refine g_istore_n C dX12_startSo_56 rfl (by decide) (lo2 := [(1, .int 0), (0, .ref x)]) rfl ?_
          have lp_917 : ∀ (n_913 i_912 : Nat) (I_910 : Nat → Nat → Int32) (J_911 : Nat → Nat → Int64), i_912 + n_913 = 42 → J = J_911 → Fk κ [14] I_902 I_910 → WG p l e { frames := 0, cells := 0, slots := 0, locals := 0 } s m ([.ref x] : List Value).toArray below meth c 2 0 0 (MQ below (Qv_ D cy L κ ln R (fun I2 J2 => J = J2 ∧ Fk κ [14] I I2)) ([.ref x] : List Value).toArray s 0 0 (Al_ L)) D cy (Al_ L) s.heap L κ ln R I_910 J_911 57 [(1, .int (nI i_912)), (0, .ref x)] [] := by
            intro n_913
            induction n_913 with
            | zero =>
              intro i_912 I_910 J_911 hi_916 e9 F_914
              subst e9
              refine g_iload_n C 0 dX12_startSo_57 rfl rfl ?_
              refine g_bipush C (v := 42) dX12_startSo_58 (by decide) ?_
              refine t_icmp_ge C (tgt := 87) (lt_ge (n := i_912) (k := 42) (by omega) (by omega)) dX12_startSo_60 (by decide) ?_
              exact g_vret B K rfl (⟨rfl, (((Fk.rf).tr F_898 (by decide)).tr F_906 (by decide)).tr F_914 (by decide)⟩) dX12_startSo_87
            | succ n_913 ihn_913 =>
              intro i_912 I_910 J_911 hi_916 e9 F_914
              subst e9
              refine g_iload_n C 0 dX12_startSo_57 rfl rfl ?_
              refine g_bipush C (v := 42) dX12_startSo_58 (by decide) ?_
              refine n_icmp_ge C (tgt := 87) (ln_ge (n := i_912) (k := 42) (by omega) (by omega)) dX12_startSo_60 (by decide) ?_
              refine g_aload_n C 1 dX12_startSo_63 rfl rfl ?_
              obtain ⟨b_918, hb_918, hb_918L, hb_918k, hb_918n, hb_918o⟩ := shp_a (W9 x hLx) hkx 14 14 389 rfl (by decide)
              refine g_getR C K hLx hkx f_12_13 hb_918 dX12_startSo_64 ?_
              refine g_bipush C (v := 105) dX12_startSo_67 (by decide) ?_
              refine g_iload_n C 0 dX12_startSo_69 rfl rfl ?_
              refine g_iadd C (v := nI (105 + i_912)) dX12_startSo_70 (nI_add 105 (i_912)) ?_
              refine g_aload_n C 1 dX12_startSo_71 rfl rfl ?_
              refine g_getR C K hLx hkx f_12_13 hb_918 dX12_startSo_72 ?_
              refine g_bipush C (v := 30) dX12_startSo_75 (by decide) ?_
              refine g_iload_n C 0 dX12_startSo_77 rfl rfl ?_
              refine g_iadd C (v := nI (30 + i_912)) dX12_startSo_78 (nI_add 30 (i_912)) ?_
              obtain ⟨x_919, hx_919⟩ : ∃ z, I_910 b_918 (30 + i_912) = z := ⟨_, rfl⟩
              refine h_iald C K hb_918L hb_918k (v := x_919) (30 + i_912) (nI_clamp (by omega)) (nI_pos (by omega)) (by rw [hb_918n]; omega) (hx_919) dX12_startSo_79 ?_
              refine h_iast C K hb_918L hb_918k (105 + i_912) (nI_clamp (by omega)) (nI_pos (by omega)) (by rw [hb_918n]; omega) dX12_startSo_80 (fun I_920 hI_920 => ?_)
              refine g_iinc C dX12_startSo_81 (k := 0) (v := nI (i_912 + 1)) rfl (nI_1 (i_912)) (by decide) (lo2 := [(1, .int (nI (i_912 + 1))), (0, .ref x)]) rfl ?_
              refine g_goto C (tgt := 57) dX12_startSo_84 (by decide) ?_
              refine g_lo (is := [0, 1]) (lo2 := [(1, .int (nI (i_912 + 1))), (0, .ref x)]) rfl ?_
              exact ihn_913 (i_912 + 1) I_920 J (by omega) rfl ((F_914).u2 hI_920 hb_918k (by decide))
          exact lp_917 (42 - 0) 0 I_902 J (by omega) rfl Fk.rf
        | succ n_905 ihn_905 =>
          intro i_904 I_902 J_903 hi_908 e9 F_906
          subst e9
          refine g_iload_n C 0 dX12_startSo_25 rfl rfl ?_
          refine g_bipush C (v := 6) dX12_startSo_26 (by decide) ?_
          refine n_icmp_ge C (tgt := 55) (ln_ge (n := i_904) (k := 6) (by omega) (by omega)) dX12_startSo_28 (by decide) ?_
          refine g_aload_n C 1 dX12_startSo_31 rfl rfl ?_
          obtain ⟨b_921, hb_921, hb_921L, hb_921k, hb_921n, hb_921o⟩ := shp_a (W9 x hLx) hkx 14 14 389 rfl (by decide)
          refine g_getR C K hLx hkx f_12_13 hb_921 dX12_startSo_32 ?_
          refine g_bipush C (v := 78) dX12_startSo_35 (by decide) ?_
          refine g_iload_n C 0 dX12_startSo_37 rfl rfl ?_
          refine g_iadd C (v := nI (78 + i_904)) dX12_startSo_38 (nI_add 78 (i_904)) ?_
          refine g_aload_n C 1 dX12_startSo_39 rfl rfl ?_
          refine g_getR C K hLx hkx f_12_13 hb_921 dX12_startSo_40 ?_
          refine g_bipush C (v := 18) dX12_startSo_43 (by decide) ?_
          refine g_iload_n C 0 dX12_startSo_45 rfl rfl ?_
          refine g_iadd C (v := nI (18 + i_904)) dX12_startSo_46 (nI_add 18 (i_904)) ?_
          obtain ⟨x_922, hx_922⟩ : ∃ z, I_902 b_921 (18 + i_904) = z := ⟨_, rfl⟩
          refine h_iald C K hb_921L hb_921k (v := x_922) (18 + i_904) (nI_clamp (by omega)) (nI_pos (by omega)) (by rw [hb_921n]; omega) (hx_922) dX12_startSo_47 ?_
          refine h_iast C K hb_921L hb_921k (78 + i_904) (nI_clamp (by omega)) (nI_pos (by omega)) (by rw [hb_921n]; omega) dX12_startSo_48 (fun I_923 hI_923 => ?_)
          refine g_iinc C dX12_startSo_49 (k := 0) (v := nI (i_904 + 1)) rfl (nI_1 (i_904)) (by decide) (lo2 := [(1, .int (nI (i_904 + 1))), (0, .ref x)]) rfl ?_
          refine g_goto C (tgt := 25) dX12_startSo_52 (by decide) ?_
          refine g_lo (is := [0, 1]) (lo2 := [(1, .int (nI (i_904 + 1))), (0, .ref x)]) rfl ?_
          exact ihn_905 (i_904 + 1) I_923 J (by omega) rfl ((F_906).u2 hI_923 hb_921k (by decide))
      exact lp_909 (6 - 0) 0 I_894 J (by omega) rfl Fk.rf
    | succ n_897 ihn_897 =>
      intro i_896 I_894 J_895 hi_900 e9 F_898
      subst e9
      refine g_iload_n C 0 dX12_startSo_3 rfl rfl ?_
      refine g_sipush C (v := 389) dX12_startSo_4 (by decide) ?_
      refine n_icmp_ge C (tgt := 23) (ln_ge (n := i_896) (k := 389) (by omega) (by omega)) dX12_startSo_7 (by decide) ?_
      refine g_aload_n C 1 dX12_startSo_10 rfl rfl ?_
      obtain ⟨b_924, hb_924, hb_924L, hb_924k, hb_924n, hb_924o⟩ := shp_a (W9 x hLx) hkx 14 14 389 rfl (by decide)
      refine g_getR C K hLx hkx f_12_13 hb_924 dX12_startSo_11 ?_
      refine g_iload_n C 0 dX12_startSo_14 rfl rfl ?_
      refine g_iconst C (v := 0) dX12_startSo_15 (by decide) ?_
      refine h_iast C K hb_924L hb_924k (i_896) (nI_clamp (by omega)) (nI_pos (by omega)) (by rw [hb_924n]; omega) dX12_startSo_16 (fun I_925 hI_925 => ?_)
      refine g_iinc C dX12_startSo_17 (k := 0) (v := nI (i_896 + 1)) rfl (nI_1 (i_896)) (by decide) (lo2 := [(1, .int (nI (i_896 + 1))), (0, .ref x)]) rfl ?_
      refine g_goto C (tgt := 3) dX12_startSo_20 (by decide) ?_
      refine g_lo (is := [0, 1]) (lo2 := [(1, .int (nI (i_896 + 1))), (0, .ref x)]) rfl ?_
      exact ihn_897 (i_896 + 1) I_925 J (by omega) rfl ((F_898).u2 hI_925 hb_924k (by decide))
  exact lp_901 (389 - 72) 72 I J (by omega) rfl Fk.rf
set_option maxRecDepth 100000 in
set_option maxHeartbeats 4000000 in
theorem m_layAside {l : Launch} {D : va_G} {cy : Nat → ClassId} {L : List Nat} {κ ln : Nat → Nat} {R : Nat → Nat → Option Nat} {I : Nat → Nat → Int32} {J : Nat → Nat → Int64} {ow : Nat → Nat × Nat} (W9 : ∀ a ∈ L, Shp L κ ln R ow a) {x : Nat} (hLx : x ∈ L) (hkx : κ x = 12)  : CtV l yX12_layAside cX12_layAside 2 none { frames := 0, cells := 0, slots := 0, locals := 0 } D cy L κ ln R I J [.ref x] (fun I2 J2 => J = J2 ∧ Fk κ [14] I I2) := by
  refine CtV.of (by decide +kernel) (Nat.le_of_ble_eq_true rfl) ?_
  intro p e s m below meth c B K
  have C := B.1
  refine g_lo (is := [0]) (lo2 := [(0, .ref x)]) rfl ?_
  refine g_iconst C (v := 0) dX12_layAside_0 (by decide) ?_
  refine g_istore_n C dX12_layAside_1 rfl (by decide) (lo2 := [(1, .int 0), (0, .ref x)]) rfl ?_
  have lp_933 : ∀ (n_929 i_928 : Nat) (I_926 : Nat → Nat → Int32) (J_927 : Nat → Nat → Int64), i_928 + n_929 = 75 → J = J_927 → Fk κ [14] I I_926 → WG p l e { frames := 0, cells := 0, slots := 0, locals := 0 } s m ([.ref x] : List Value).toArray below meth c 2 0 0 (MQ below (Qv_ D cy L κ ln R (fun I2 J2 => J = J2 ∧ Fk κ [14] I I2)) ([.ref x] : List Value).toArray s 0 0 (Al_ L)) D cy (Al_ L) s.heap L κ ln R I_926 J_927 2 [(1, .int (nI i_928)), (0, .ref x)] [] := by
    intro n_929
    induction n_929 with
    | zero =>
      intro i_928 I_926 J_927 hi_932 e9 F_930
      subst e9
      refine g_iload_n C 0 dX12_layAside_2 rfl rfl ?_
      refine g_bipush C (v := 75) dX12_layAside_3 (by decide) ?_
      refine t_icmp_ge C (tgt := 29) (lt_ge (n := i_928) (k := 75) (by omega) (by omega)) dX12_layAside_5 (by decide) ?_
      exact g_vret B K rfl (⟨rfl, (Fk.rf).tr F_930 (by decide)⟩) dX12_layAside_29
    | succ n_929 ihn_929 =>
      intro i_928 I_926 J_927 hi_932 e9 F_930
      subst e9
      refine g_iload_n C 0 dX12_layAside_2 rfl rfl ?_
      refine g_bipush C (v := 75) dX12_layAside_3 (by decide) ?_
      refine n_icmp_ge C (tgt := 29) (ln_ge (n := i_928) (k := 75) (by omega) (by omega)) dX12_layAside_5 (by decide) ?_
      refine g_aload_n C 1 dX12_layAside_8 rfl rfl ?_
      obtain ⟨b_934, hb_934, hb_934L, hb_934k, hb_934n, hb_934o⟩ := shp_a (W9 x hLx) hkx 18 14 75 rfl (by decide)
      refine g_getR C K hLx hkx f_12_25 hb_934 dX12_layAside_9 ?_
      refine g_iload_n C 0 dX12_layAside_12 rfl rfl ?_
      refine g_aload_n C 1 dX12_layAside_13 rfl rfl ?_
      obtain ⟨b_935, hb_935, hb_935L, hb_935k, hb_935n, hb_935o⟩ := shp_a (W9 x hLx) hkx 14 14 389 rfl (by decide)
      refine g_getR C K hLx hkx f_12_13 hb_935 dX12_layAside_14 ?_
      refine g_bipush C (v := 72) dX12_layAside_17 (by decide) ?_
      refine g_iload_n C 0 dX12_layAside_19 rfl rfl ?_
      refine g_iadd C (v := nI (72 + i_928)) dX12_layAside_20 (nI_add 72 (i_928)) ?_
      obtain ⟨x_936, hx_936⟩ : ∃ z, I_926 b_935 (72 + i_928) = z := ⟨_, rfl⟩
      refine h_iald C K hb_935L hb_935k (v := x_936) (72 + i_928) (nI_clamp (by omega)) (nI_pos (by omega)) (by rw [hb_935n]; omega) (hx_936) dX12_layAside_21 ?_
      refine h_iast C K hb_934L hb_934k (i_928) (nI_clamp (by omega)) (nI_pos (by omega)) (by rw [hb_934n]; omega) dX12_layAside_22 (fun I_937 hI_937 => ?_)
      refine g_iinc C dX12_layAside_23 (k := 0) (v := nI (i_928 + 1)) rfl (nI_1 (i_928)) (by decide) (lo2 := [(1, .int (nI (i_928 + 1))), (0, .ref x)]) rfl ?_
      refine g_goto C (tgt := 2) dX12_layAside_26 (by decide) ?_
      refine g_lo (is := [0, 1]) (lo2 := [(1, .int (nI (i_928 + 1))), (0, .ref x)]) rfl ?_
      exact ihn_929 (i_928 + 1) I_937 J (by omega) rfl ((F_930).u2 hI_937 hb_934k (by decide))
  exact lp_933 (75 - 0) 0 I J (by omega) rfl Fk.rf
set_option maxRecDepth 100000 in
set_option maxHeartbeats 4000000 in
theorem m_stay0 {l : Launch} {D : va_G} {cy : Nat → ClassId} {L : List Nat} {κ ln : Nat → Nat} {R : Nat → Nat → Option Nat} {I : Nat → Nat → Int32} {J : Nat → Nat → Int64} {ow : Nat → Nat × Nat} (W9 : ∀ a ∈ L, Shp L κ ln R ow a) {x : Nat} (hLx : x ∈ L) (hkx : κ x = 12)  : CtV l yX12_stay cX12_stay 4 none { frames := 0, cells := 0, slots := 0, locals := 0 } D cy L κ ln R I J [.ref x, .int 0] (fun I2 J2 => J = J2 ∧ Fk κ [14] I I2) := by
  refine CtV.of (by decide +kernel) (Nat.le_of_ble_eq_true rfl) ?_
  intro p e s m below meth c B K
  have C := B.1
  refine g_lo (is := [0, 1]) (lo2 := [(0, .ref x), (1, .int 0)]) rfl ?_
  refine g_iconst C (v := 0) dX12_stay_0 (by decide) ?_
  refine g_istore_n C dX12_stay_1 rfl (by decide) (lo2 := [(2, .int 0), (0, .ref x), (1, .int 0)]) rfl ?_
  have lp_945 : ∀ (n_941 i_940 : Nat) (I_938 : Nat → Nat → Int32) (J_939 : Nat → Nat → Int64), i_940 + n_941 = 75 → J = J_939 → Fk κ [14] I I_938 → WG p l e { frames := 0, cells := 0, slots := 0, locals := 0 } s m ([.ref x, .int 0] : List Value).toArray below meth c 4 0 0 (MQ below (Qv_ D cy L κ ln R (fun I2 J2 => J = J2 ∧ Fk κ [14] I I2)) ([.ref x, .int 0] : List Value).toArray s 0 0 (Al_ L)) D cy (Al_ L) s.heap L κ ln R I_938 J_939 2 [(2, .int (nI i_940)), (0, .ref x), (1, .int 0)] [] := by
    intro n_941
    induction n_941 with
    | zero =>
      intro i_940 I_938 J_939 hi_944 e9 F_942
      subst e9
      refine g_iload_n C 0 dX12_stay_2 rfl rfl ?_
      refine g_bipush C (v := 75) dX12_stay_3 (by decide) ?_
      refine t_icmp_ge C (tgt := 46) (lt_ge (n := i_940) (k := 75) (by omega) (by omega)) dX12_stay_5 (by decide) ?_
      refine g_iload_n C 2 dX12_stay_46 rfl rfl ?_
      refine n_if_ne C (tgt := 51) (by decide) dX12_stay_47 (by decide) ?_
      exact g_vret B K rfl (⟨rfl, (Fk.rf).tr F_942 (by decide)⟩) dX12_stay_50
    | succ n_941 ihn_941 =>
      intro i_940 I_938 J_939 hi_944 e9 F_942
      subst e9
      refine g_iload_n C 0 dX12_stay_2 rfl rfl ?_
      refine g_bipush C (v := 75) dX12_stay_3 (by decide) ?_
      refine n_icmp_ge C (tgt := 46) (ln_ge (n := i_940) (k := 75) (by omega) (by omega)) dX12_stay_5 (by decide) ?_
      refine g_aload_n C 1 dX12_stay_8 rfl rfl ?_
      obtain ⟨b_946, hb_946, hb_946L, hb_946k, hb_946n, hb_946o⟩ := shp_a (W9 x hLx) hkx 14 14 389 rfl (by decide)
      refine g_getR C K hLx hkx f_12_13 hb_946 dX12_stay_9 ?_
      refine g_bipush C (v := 72) dX12_stay_12 (by decide) ?_
      refine g_iload_n C 0 dX12_stay_14 rfl rfl ?_
      refine g_iadd C (v := nI (72 + i_940)) dX12_stay_15 (nI_add 72 (i_940)) ?_
      obtain ⟨x_947, hx_947⟩ : ∃ z, I_938 b_946 (72 + i_940) = z := ⟨_, rfl⟩
      refine h_iald C K hb_946L hb_946k (v := x_947) (72 + i_940) (nI_clamp (by omega)) (nI_pos (by omega)) (by rw [hb_946n]; omega) (hx_947) dX12_stay_16 ?_
      refine g_istore_n C dX12_stay_17 rfl (by decide) (lo2 := [(3, .int x_947), (2, .int (nI i_940)), (0, .ref x), (1, .int 0)]) rfl ?_
      refine g_aload_n C 2 dX12_stay_18 rfl rfl ?_
      refine g_getR C K hLx hkx f_12_13 hb_946 dX12_stay_19 ?_
      refine g_bipush C (v := 72) dX12_stay_22 (by decide) ?_
      refine g_iload_n C 1 dX12_stay_24 rfl rfl ?_
      refine g_iadd C (v := nI (72 + i_940)) dX12_stay_25 (nI_add 72 (i_940)) ?_
      refine g_aload_n C 2 dX12_stay_26 rfl rfl ?_
      obtain ⟨b_948, hb_948, hb_948L, hb_948k, hb_948n, hb_948o⟩ := shp_a (W9 x hLx) hkx 18 14 75 rfl (by decide)
      refine g_getR C K hLx hkx f_12_25 hb_948 dX12_stay_27 ?_
      refine g_iload_n C 1 dX12_stay_30 rfl rfl ?_
      obtain ⟨x_949, hx_949⟩ : ∃ z, I_938 b_948 (i_940) = z := ⟨_, rfl⟩
      refine h_iald C K hb_948L hb_948k (v := x_949) (i_940) (nI_clamp (by omega)) (nI_pos (by omega)) (by rw [hb_948n]; omega) (hx_949) dX12_stay_31 ?_
      refine h_iast C K hb_946L hb_946k (72 + i_940) (nI_clamp (by omega)) (nI_pos (by omega)) (by rw [hb_946n]; omega) dX12_stay_32 (fun I_950 hI_950 => ?_)
      refine g_aload_n C 2 dX12_stay_33 rfl rfl ?_
      refine g_getR C K hLx hkx f_12_25 hb_948 dX12_stay_34 ?_
      refine g_iload_n C 1 dX12_stay_37 rfl rfl ?_
      refine g_iload_n C 0 dX12_stay_38 rfl rfl ?_
      refine h_iast C K hb_948L hb_948k (i_940) (nI_clamp (by omega)) (nI_pos (by omega)) (by rw [hb_948n]; omega) dX12_stay_39 (fun I_951 hI_951 => ?_)
      refine g_iinc C dX12_stay_40 (k := 1) (v := nI (i_940 + 1)) rfl (nI_1 (i_940)) (by decide) (lo2 := [(2, .int (nI (i_940 + 1))), (3, .int x_947), (0, .ref x), (1, .int 0)]) rfl ?_
      refine g_goto C (tgt := 2) dX12_stay_43 (by decide) ?_
      refine g_lo (is := [0, 2, 3]) (lo2 := [(2, .int (nI (i_940 + 1))), (0, .ref x), (1, .int 0)]) rfl ?_
      exact ihn_941 (i_940 + 1) I_951 J (by omega) rfl (((F_942).u2 hI_950 hb_946k (by decide)).u2 hI_951 hb_948k (by decide))
  exact lp_945 (75 - 0) 0 I J (by omega) rfl Fk.rf
set_option maxRecDepth 100000 in
set_option maxHeartbeats 4000000 in
theorem m_snap0 {l : Launch} {D : va_G} {cy : Nat → ClassId} {L : List Nat} {κ ln : Nat → Nat} {R : Nat → Nat → Option Nat} {I : Nat → Nat → Int32} {J : Nat → Nat → Int64} {ow : Nat → Nat × Nat} (W9 : ∀ a ∈ L, Shp L κ ln R ow a) {x : Nat} (hLx : x ∈ L) (hkx : κ x = 12) (h23 : I x 23 = 0) (Z14 : Zk L κ 14 I) : CtV l yX12_snap cX12_snap 2 none { frames := 0, cells := 0, slots := 0, locals := 0 } D cy L κ ln R I J [.ref x] (fun I2 J2 => J = J2 ∧ Fk κ [12, 14] I I2 ∧ Zk L κ 14 I2) := by
  refine CtV.of (by decide +kernel) (Nat.le_of_ble_eq_true rfl) ?_
  intro p e s m below meth c B K
  have C := B.1
  refine g_lo (is := [0]) (lo2 := [(0, .ref x)]) rfl ?_
  refine g_aload_n C 0 dX12_snap_0 rfl rfl ?_
  refine g_getI C K hLx hkx f_12_228 (v := 0) (h23) dX12_snap_1 ?_
  refine g_bipush C (v := 8) dX12_snap_4 (by decide) ?_
  refine t_icmp_ne C (tgt := 49) (by decide) dX12_snap_6 (by decide) ?_
  refine g_iconst C (v := 0) dX12_snap_49 (by decide) ?_
  refine g_istore_n C dX12_snap_50 rfl (by decide) (lo2 := [(1, .int 0), (0, .ref x)]) rfl ?_
  have lp_960 : ∀ (n_955 i_954 : Nat) (I_952 : Nat → Nat → Int32) (J_953 : Nat → Nat → Int64), i_954 + n_955 = 75 → J = J_953 → Fk κ [14] I I_952 → Zk L κ 14 I_952 → WG p l e { frames := 0, cells := 0, slots := 0, locals := 0 } s m ([.ref x] : List Value).toArray below meth c 2 0 0 (MQ below (Qv_ D cy L κ ln R (fun I2 J2 => J = J2 ∧ Fk κ [12, 14] I I2 ∧ Zk L κ 14 I2)) ([.ref x] : List Value).toArray s 0 0 (Al_ L)) D cy (Al_ L) s.heap L κ ln R I_952 J_953 51 [(1, .int (nI i_954)), (0, .ref x)] [] := by
    intro n_955
    induction n_955 with
    | zero =>
      intro i_954 I_952 J_953 hi_958 e9 F_956 z_959
      subst e9
      refine g_iload_n C 0 dX12_snap_51 rfl rfl ?_
      refine g_bipush C (v := 75) dX12_snap_52 (by decide) ?_
      refine t_icmp_ge C (tgt := 86) (lt_ge (n := i_954) (k := 75) (by omega) (by omega)) dX12_snap_54 (by decide) ?_
      refine g_aload_n C 1 dX12_snap_86 rfl rfl ?_
      refine g_dup C dX12_snap_87 rfl ?_
      refine g_getI C K hLx hkx f_12_228 (v := 0) (by rw [F_956 x 23 (by rw [hkx]; decide)]; exact h23) dX12_snap_88 ?_
      refine g_iconst C (v := 1) dX12_snap_91 (by decide) ?_
      refine g_iadd C (v := 1) dX12_snap_92 (by decide) ?_
      refine h_putI C K hLx hkx f_12_228 p_12_23 dX12_snap_93 (fun I_961 hI_961 => ?_)
      exact g_vret B K rfl (⟨rfl, ((Fk.rf).tr F_956 (by decide)).u2 hI_961 hkx (by decide), (z_959).u2k hI_961 hkx (by decide)⟩) dX12_snap_96
    | succ n_955 ihn_955 =>
      intro i_954 I_952 J_953 hi_958 e9 F_956 z_959
      subst e9
      refine g_iload_n C 0 dX12_snap_51 rfl rfl ?_
      refine g_bipush C (v := 75) dX12_snap_52 (by decide) ?_
      refine n_icmp_ge C (tgt := 86) (ln_ge (n := i_954) (k := 75) (by omega) (by omega)) dX12_snap_54 (by decide) ?_
      refine g_aload_n C 1 dX12_snap_57 rfl rfl ?_
      obtain ⟨b_962, hb_962, hb_962L, hb_962k, hb_962n, hb_962o⟩ := shp_a (W9 x hLx) hkx 17 14 600 rfl (by decide)
      refine g_getR C K hLx hkx f_12_22 hb_962 dX12_snap_58 ?_
      refine g_bipush C (v := 75) dX12_snap_61 (by decide) ?_
      refine g_aload_n C 1 dX12_snap_63 rfl rfl ?_
      refine g_getI C K hLx hkx f_12_228 (v := 0) (by rw [F_956 x 23 (by rw [hkx]; decide)]; exact h23) dX12_snap_64 ?_
      refine g_imul C (v := 0) dX12_snap_67 (by decide) ?_
      refine g_iload_n C 0 dX12_snap_68 rfl rfl ?_
      refine g_iadd C (v := nI (0 + i_954)) dX12_snap_69 (nI_add 0 (i_954)) ?_
      refine g_aload_n C 1 dX12_snap_70 rfl rfl ?_
      obtain ⟨b_963, hb_963, hb_963L, hb_963k, hb_963n, hb_963o⟩ := shp_a (W9 x hLx) hkx 14 14 389 rfl (by decide)
      refine g_getR C K hLx hkx f_12_13 hb_963 dX12_snap_71 ?_
      refine g_bipush C (v := 72) dX12_snap_74 (by decide) ?_
      refine g_iload_n C 0 dX12_snap_76 rfl rfl ?_
      refine g_iadd C (v := nI (72 + i_954)) dX12_snap_77 (nI_add 72 (i_954)) ?_
      refine h_iald C K hb_963L hb_963k (v := 0) (72 + i_954) (nI_clamp (by omega)) (nI_pos (by omega)) (by rw [hb_963n]; omega) (z_959 b_963 hb_963L hb_963k (72 + i_954)) dX12_snap_78 ?_
      refine h_iast C K hb_962L hb_962k (0 + i_954) (nI_clamp (by omega)) (nI_pos (by omega)) (by rw [hb_962n]; omega) dX12_snap_79 (fun I_964 hI_964 => ?_)
      refine g_iinc C dX12_snap_80 (k := 0) (v := nI (i_954 + 1)) rfl (nI_1 (i_954)) (by decide) (lo2 := [(1, .int (nI (i_954 + 1))), (0, .ref x)]) rfl ?_
      refine g_goto C (tgt := 51) dX12_snap_83 (by decide) ?_
      refine g_lo (is := [0, 1]) (lo2 := [(1, .int (nI (i_954 + 1))), (0, .ref x)]) rfl ?_
      exact ihn_955 (i_954 + 1) I_964 J (by omega) rfl ((F_956).u2 hI_964 hb_962k (by decide)) ((z_959).u2 hI_964 rfl)
  exact lp_960 (75 - 0) 0 I J (by omega) rfl Fk.rf (Z14)
set_option maxRecDepth 100000 in
set_option maxHeartbeats 4000000 in
theorem m_oneMeal0 {l : Launch} {D : va_G} {cy : Nat → ClassId} {L : List Nat} {κ ln : Nat → Nat} {R : Nat → Nat → Option Nat} {I : Nat → Nat → Int32} {J : Nat → Nat → Int64} {ow : Nat → Nat × Nat} (W9 : ∀ a ∈ L, Shp L κ ln R ow a) {x : Nat} (hLx : x ∈ L) (hkx : κ x = 12) (h0 : ∀ b, R x 14 = some b → I b 0 = 0) (n : Nat) (h72 : ∀ b, R x 14 = some b → I b 72 = nI n) : CtV l yX12_oneMeal cX12_oneMeal 4 none { frames := 0, cells := 0, slots := 0, locals := 0 } D cy L κ ln R I J [.ref x] (fun I2 J2 => J = J2 ∧ Fk κ [14] I I2 ∧ (∀ b, R x 14 = some b → I2 b 0 = 0) ∧ (∀ b, R x 14 = some b → I2 b 72 = nI (n + 1))) := by
  refine CtV.of (by decide +kernel) (Nat.le_of_ble_eq_true rfl) ?_
  intro p e s m below meth c B K
  have C := B.1
  refine g_lo (is := [0]) (lo2 := [(0, .ref x)]) rfl ?_
  refine g_iconst C (v := 0) dX12_oneMeal_0 (by decide) ?_
  refine g_istore_n C dX12_oneMeal_1 rfl (by decide) (lo2 := [(1, .int 0), (0, .ref x)]) rfl ?_
  refine g_iload_n C 0 dX12_oneMeal_2 rfl rfl ?_
  refine g_aload_n C 1 dX12_oneMeal_3 rfl rfl ?_
  obtain ⟨b_965, hb_965, hb_965L, hb_965k, hb_965n, hb_965o⟩ := shp_a (W9 x hLx) hkx 14 14 389 rfl (by decide)
  refine g_getR C K hLx hkx f_12_13 hb_965 dX12_oneMeal_4 ?_
  refine g_iconst C (v := 0) dX12_oneMeal_7 (by decide) ?_
  refine h_iald C K hb_965L hb_965k (v := 0) (0) (by decide) (by decide) (by rw [hb_965n]; decide) (h0 b_965 hb_965) dX12_oneMeal_8 ?_
  refine t_icmp_ge C (tgt := 115) (by decide) dX12_oneMeal_9 (by decide) ?_
  refine g_aload_n C 1 dX12_oneMeal_115 rfl rfl ?_
  refine g_getR C K hLx hkx f_12_13 hb_965 dX12_oneMeal_116 ?_
  refine g_bipush C (v := 72) dX12_oneMeal_119 (by decide) ?_
  refine g_dup2 C dX12_oneMeal_121 rfl rfl ?_
  refine h_iald C K hb_965L hb_965k (v := nI n) (72) (by decide) (by decide) (by rw [hb_965n]; decide) (h72 b_965 hb_965) dX12_oneMeal_122 ?_
  refine g_iconst C (v := 1) dX12_oneMeal_123 (by decide) ?_
  refine g_iadd C (v := nI (n + 1)) dX12_oneMeal_124 (nI_add (n) 1) ?_
  refine h_iast C K hb_965L hb_965k (72) (by decide) (by decide) (by rw [hb_965n]; decide) dX12_oneMeal_125 (fun I_966 hI_966 => ?_)
  exact g_vret B K rfl (⟨rfl, (Fk.rf).u2 hI_966 hb_965k (by decide), fun b hb => by rw [hb_965] at hb; cases hb; exact (by rw [hI_966, u2_j (by decide)]; exact h0 b_965 hb_965), fun b hb => by rw [hb_965] at hb; cases hb; exact (by rw [hI_966]; exact u2_s)⟩) dX12_oneMeal_126
set_option maxRecDepth 100000 in
set_option maxHeartbeats 4000000 in
theorem m_passMeals0 {l : Launch} {D : va_G} {cy : Nat → ClassId} {L : List Nat} {κ ln : Nat → Nat} {R : Nat → Nat → Option Nat} {I : Nat → Nat → Int32} {J : Nat → Nat → Int64} {ow : Nat → Nat × Nat} (W9 : ∀ a ∈ L, Shp L κ ln R ow a) {x : Nat} (hLx : x ∈ L) (hkx : κ x = 12) (N : Nat) (hN : 1 ≤ N ∧ N ≤ 60) (h0 : ∀ b, R x 14 = some b → I b 0 = 0) (h72 : ∀ b, R x 14 = some b → I b 72 = 0) : CtI l yX12_passMeals cX12_passMeals 4 (some .int) { frames := 1, cells := 0, slots := 0, locals := 100 } D cy L κ ln R I J [.ref x, .int (nI N)] (fun r _ _ => r = nI N) := by
  refine CtI.of (by decide +kernel) (Nat.le_of_ble_eq_true rfl) ?_
  intro p e s m below meth c B K
  have C := B.1
  refine g_lo (is := [0, 1]) (lo2 := [(0, .ref x), (1, .int (nI N))]) rfl ?_
  refine g_iload_n C 1 dX12_passMeals_0 rfl rfl ?_
  refine g_sipush C (v := 200) dX12_passMeals_1 (by decide) ?_
  refine g_aload_n C 0 dX12_passMeals_4 rfl rfl ?_
  obtain ⟨b_967, hb_967, hb_967L, hb_967k, hb_967n, hb_967o⟩ := shp_a (W9 x hLx) hkx 14 14 389 rfl (by decide)
  refine g_getR C K hLx hkx f_12_13 hb_967 dX12_passMeals_5 ?_
  refine g_bipush C (v := 72) dX12_passMeals_8 (by decide) ?_
  refine h_iald C K hb_967L hb_967k (v := 0) (72) (by decide) (by decide) (by rw [hb_967n]; decide) (h72 b_967 hb_967) dX12_passMeals_10 ?_
  refine g_isub C (v := 200) dX12_passMeals_11 (by decide) ?_
  refine g_callSI C K (m_least0 N hN.2) s_12_265 rfl ⟨rfl, rfl⟩ ⟨Nat.le_of_ble_eq_true rfl, Nat.le_of_ble_eq_true rfl⟩ (Nat.le_of_ble_eq_true rfl) ⟨Nat.le_of_ble_eq_true rfl, Nat.le_of_ble_eq_true rfl⟩ dX12_passMeals_12 rfl (st := []) (fun r_971 I_968 J_969 h_970 => ?_)
  obtain ⟨rfl, rfl, er_971⟩ := h_970
  have h0r_971 := er_971
  subst er_971
  refine g_istore_n C dX12_passMeals_15 rfl (by decide) (lo2 := [(2, .int (nI N)), (0, .ref x), (1, .int (nI N))]) rfl ?_
  refine g_iconst C (v := 0) dX12_passMeals_16 (by decide) ?_
  refine g_istore_n C dX12_passMeals_17 rfl (by decide) (lo2 := [(3, .int 0), (2, .int (nI N)), (0, .ref x), (1, .int (nI N))]) rfl ?_
  have lp_979 : ∀ (n_975 i_974 : Nat) (I_972 : Nat → Nat → Int32) (J_973 : Nat → Nat → Int64), i_974 + n_975 = N → J = J_973 → Fk κ [14] I I_972 → I_972 b_967 72 = nI i_974 → I_972 b_967 0 = 0 → WG p l e { frames := 1, cells := 0, slots := 0, locals := 100 } s m ([.ref x, .int (nI N)] : List Value).toArray below meth c 4 0 0 (MQ below (Qi_ D cy L κ ln R (fun r _ _ => r = nI N)) ([.ref x, .int (nI N)] : List Value).toArray s 0 0 (Al_ L)) D cy (Al_ L) s.heap L κ ln R I_972 J_973 18 [(3, .int (nI i_974)), (2, .int (nI N)), (0, .ref x), (1, .int (nI N))] [] := by
    intro n_975
    induction n_975 with
    | zero =>
      intro i_974 I_972 J_973 hi_978 e9 F_976 x_980 y_981
      subst e9
      refine g_iload_n C 0 dX12_passMeals_18 rfl rfl ?_
      refine g_iload_n C 1 dX12_passMeals_19 rfl rfl ?_
      refine t_icmp_ge C (tgt := 33) (lt_ge (n := i_974) (k := N) (by omega) (by omega)) dX12_passMeals_20 (by decide) ?_
      refine g_iload_n C 1 dX12_passMeals_33 rfl rfl ?_
      exact g_zret (ty := .int) (r := nI N) B K rfl rfl (rfl) dX12_passMeals_34
    | succ n_975 ihn_975 =>
      intro i_974 I_972 J_973 hi_978 e9 F_976 x_980 y_981
      subst e9
      refine g_iload_n C 0 dX12_passMeals_18 rfl rfl ?_
      refine g_iload_n C 1 dX12_passMeals_19 rfl rfl ?_
      refine n_icmp_ge C (tgt := 33) (ln_ge (n := i_974) (k := N) (by omega) (by omega)) dX12_passMeals_20 (by decide) ?_
      refine g_aload_n C 2 dX12_passMeals_23 rfl rfl ?_
      refine g_callVV C K (m_oneMeal0 W9 hLx hkx (fun b hb => by rw [hb_967] at hb; cases hb; exact (y_981)) (i_974) (fun b hb => by rw [hb_967] at hb; cases hb; exact (x_980))) hLx hkx (by decide) rfl v_12_292 rfl ⟨rfl, rfl⟩ ⟨Nat.le_of_ble_eq_true rfl, Nat.le_of_ble_eq_true rfl⟩ (Nat.le_of_ble_eq_true rfl) ⟨Nat.le_of_ble_eq_true rfl, Nat.le_of_ble_eq_true rfl⟩ dX12_passMeals_24 rfl (st := []) (fun I_982 J_983 h_984 => ?_)
      obtain ⟨rfl, f_986, v_988, v_989⟩ := h_984
      refine g_iinc C dX12_passMeals_27 (k := 0) (v := nI (i_974 + 1)) rfl (nI_1 (i_974)) (by decide) (lo2 := [(3, .int (nI (i_974 + 1))), (2, .int (nI N)), (0, .ref x), (1, .int (nI N))]) rfl ?_
      refine g_goto C (tgt := 18) dX12_passMeals_30 (by decide) ?_
      refine g_lo (is := [0, 1, 2, 3]) (lo2 := [(3, .int (nI (i_974 + 1))), (2, .int (nI N)), (0, .ref x), (1, .int (nI N))]) rfl ?_
      exact ihn_975 (i_974 + 1) I_982 J (by omega) rfl ((F_976).tr f_986 (by decide)) (v_989 b_967 hb_967) (v_988 b_967 hb_967)
  exact lp_979 (N - 0) 0 I J (by omega) rfl Fk.rf (h72 b_967 hb_967) (h0 b_967 hb_967)
set_option maxRecDepth 100000 in
set_option maxHeartbeats 4000000 in
theorem m_orderFrom0 {l : Launch} {D : va_G} {cy : Nat → ClassId} {L : List Nat} {κ ln : Nat → Nat} {R : Nat → Nat → Option Nat} {I : Nat → Nat → Int32} {J : Nat → Nat → Int64} {ow : Nat → Nat × Nat} (W9 : ∀ a ∈ L, Shp L κ ln R ow a) {x : Nat} (hLx : x ∈ L) (hkx : κ x = 12) (Z14 : Zk L κ 14 I) (h30 : I x 30 = 1000000) : CtV l yX12_orderFrom cX12_orderFrom 5 none { frames := 0, cells := 0, slots := 0, locals := 0 } D cy L κ ln R I J [.ref x, .int 0, .int 0] (fun I2 J2 => J = J2 ∧ Fk κ [12, 14] I I2 ∧ I2 x 30 = 0) := by
  refine CtV.of (by decide +kernel) (Nat.le_of_ble_eq_true rfl) ?_
  intro p e s m below meth c B K
  have C := B.1
  refine g_lo (is := [0, 1, 2]) (lo2 := [(0, .ref x), (1, .int 0), (2, .int 0)]) rfl ?_
  refine g_iload_n C 2 dX12_orderFrom_0 rfl rfl ?_
  refine n_if_ne C (tgt := 88) (by decide) dX12_orderFrom_1 (by decide) ?_
  refine g_iconst C (v := 0) dX12_orderFrom_4 (by decide) ?_
  refine g_istore_n C dX12_orderFrom_5 rfl (by decide) (lo2 := [(3, .int 0), (0, .ref x), (1, .int 0), (2, .int 0)]) rfl ?_
  refine g_iconst C (v := 0) dX12_orderFrom_6 (by decide) ?_
  refine g_istore C dX12_orderFrom_7 (by decide) (lo2 := [(4, .int 0), (3, .int 0), (0, .ref x), (1, .int 0), (2, .int 0)]) rfl ?_
  refine g_iload C 0 dX12_orderFrom_9 rfl ?_
  refine g_aload_n C 2 dX12_orderFrom_11 rfl rfl ?_
  obtain ⟨b_990, hb_990, hb_990L, hb_990k, hb_990n, hb_990o⟩ := shp_a (W9 x hLx) hkx 14 14 389 rfl (by decide)
  refine g_getR C K hLx hkx f_12_13 hb_990 dX12_orderFrom_12 ?_
  refine g_iconst C (v := 0) dX12_orderFrom_15 (by decide) ?_
  refine h_iald C K hb_990L hb_990k (v := 0) (0) (by decide) (by decide) (by rw [hb_990n]; decide) (Z14 b_990 hb_990L hb_990k 0) dX12_orderFrom_16 ?_
  refine t_icmp_ge C (tgt := 44) (by decide) dX12_orderFrom_17 (by decide) ?_
  refine g_iload_n C 1 dX12_orderFrom_44 rfl rfl ?_
  refine g_aload_n C 2 dX12_orderFrom_45 rfl rfl ?_
  refine g_getI C K hLx hkx f_12_298 (v := 1000000) (h30) dX12_orderFrom_46 ?_
  refine t_icmp_lt C (tgt := 53) (by decide) dX12_orderFrom_49 (by decide) ?_
  refine g_aload_n C 2 dX12_orderFrom_53 rfl rfl ?_
  refine g_iload_n C 1 dX12_orderFrom_54 rfl rfl ?_
  refine h_putI C K hLx hkx f_12_298 p_12_30 dX12_orderFrom_55 (fun I_991 hI_991 => ?_)
  refine g_iconst C (v := 0) dX12_orderFrom_58 (by decide) ?_
  refine g_istore C dX12_orderFrom_59 (by decide) (lo2 := [(4, .int 0), (3, .int 0), (0, .ref x), (1, .int 0), (2, .int 0)]) rfl ?_
  refine g_iload C 0 dX12_orderFrom_61 rfl ?_
  refine g_iload_n C 3 dX12_orderFrom_63 rfl rfl ?_
  refine t_icmp_ge C (tgt := 87) (by decide) dX12_orderFrom_64 (by decide) ?_
  exact g_vret B K rfl (⟨rfl, (Fk.rf).u2 hI_991 hkx (by decide), by rw [hI_991]; exact u2_s⟩) dX12_orderFrom_87
set_option maxRecDepth 100000 in
set_option maxHeartbeats 4000000 in
theorem m_seatFrom0 {l : Launch} {D : va_G} {cy : Nat → ClassId} {L : List Nat} {κ ln : Nat → Nat} {R : Nat → Nat → Option Nat} {I : Nat → Nat → Int32} {J : Nat → Nat → Int64} {ow : Nat → Nat × Nat} (W9 : ∀ a ∈ L, Shp L κ ln R ow a) {x : Nat} (hLx : x ∈ L) (hkx : κ x = 12) (h38 : I x 38 = -1) : CtV l yX12_seatFrom cX12_seatFrom 5 none { frames := 0, cells := 0, slots := 0, locals := 0 } D cy L κ ln R I J [.ref x, .int 0, .int 0, .int 0] (fun I2 J2 => J = J2 ∧ Fk κ [12, 14] I I2 ∧ I2 x 38 = 0) := by
  refine CtV.of (by decide +kernel) (Nat.le_of_ble_eq_true rfl) ?_
  intro p e s m below meth c B K
  have C := B.1
  refine g_lo (is := [0, 1, 2, 3]) (lo2 := [(0, .ref x), (1, .int 0), (2, .int 0), (3, .int 0)]) rfl ?_
  refine g_iload_n C 2 dX12_seatFrom_0 rfl rfl ?_
  refine n_if_ne C (tgt := 48) (by decide) dX12_seatFrom_1 (by decide) ?_
  refine g_iload_n C 3 dX12_seatFrom_4 rfl rfl ?_
  refine g_aload_n C 0 dX12_seatFrom_5 rfl rfl ?_
  refine g_getI C K hLx hkx f_12_320 (v := (-1)) (h38) dX12_seatFrom_6 ?_
  refine t_icmp_gt C (tgt := 13) (by decide) dX12_seatFrom_9 (by decide) ?_
  refine g_aload_n C 0 dX12_seatFrom_13 rfl rfl ?_
  refine g_iload_n C 3 dX12_seatFrom_14 rfl rfl ?_
  refine h_putI C K hLx hkx f_12_320 p_12_38 dX12_seatFrom_15 (fun I_992 hI_992 => ?_)
  refine g_iconst C (v := 0) dX12_seatFrom_18 (by decide) ?_
  refine g_istore C dX12_seatFrom_19 (by decide) (lo2 := [(4, .int 0), (0, .ref x), (1, .int 0), (2, .int 0), (3, .int 0)]) rfl ?_
  refine g_iload C 0 dX12_seatFrom_21 rfl ?_
  refine g_iload_n C 2 dX12_seatFrom_23 rfl rfl ?_
  refine t_icmp_ge C (tgt := 47) (by decide) dX12_seatFrom_24 (by decide) ?_
  exact g_vret B K rfl (⟨rfl, (Fk.rf).u2 hI_992 hkx (by decide), by rw [hI_992]; exact u2_s⟩) dX12_seatFrom_47
set_option maxRecDepth 100000 in
set_option maxHeartbeats 4000000 in
theorem m_readSaid0 {l : Launch} {D : va_G} {cy : Nat → ClassId} {L : List Nat} {κ ln : Nat → Nat} {R : Nat → Nat → Option Nat} {I : Nat → Nat → Int32} {J : Nat → Nat → Int64} {x : Nat} (hLx : x ∈ L) (hkx : κ x = 12) (h6 : I x 6 = 0) (h7 : I x 7 = 0) : CtI l yX12_readSaid cX12_readSaid 4 (some .boolean) { frames := 1, cells := 0, slots := 0, locals := 100 } D cy L κ ln R I J [.ref x] (fun r I2 J2 => J = J2 ∧ Fk κ [12] I I2 ∧ I2 x 11 = 0 ∧ r = 0) := by
  refine CtI.of (by decide +kernel) (Nat.le_of_ble_eq_true rfl) ?_
  intro p e s m below meth c B K
  have C := B.1
  refine g_lo (is := [0]) (lo2 := [(0, .ref x)]) rfl ?_
  refine g_aload_n C 0 dX12_readSaid_0 rfl rfl ?_
  refine g_bipush C (v := 40) dX12_readSaid_1 (by decide) ?_
  refine g_callVI C K (m_isSign0 hLx hkx h7) hLx hkx (by decide) rfl v_12_159 rfl ⟨rfl, rfl⟩ ⟨Nat.le_of_ble_eq_true rfl, Nat.le_of_ble_eq_true rfl⟩ (Nat.le_of_ble_eq_true rfl) ⟨Nat.le_of_ble_eq_true rfl, Nat.le_of_ble_eq_true rfl⟩ dX12_readSaid_3 rfl (st := []) (fun r_996 I_993 J_994 h_995 => ?_)
  obtain ⟨rfl, rfl, er_996⟩ := h_995
  have h0r_996 := er_996
  subst er_996
  refine g_istore_n C dX12_readSaid_6 rfl (by decide) (lo2 := [(1, .int 0), (0, .ref x)]) rfl ?_
  refine g_bipush C (v := 18) dX12_readSaid_7 (by decide) ?_
  refine g_istore_n C dX12_readSaid_9 rfl (by decide) (lo2 := [(2, .int 18), (1, .int 0), (0, .ref x)]) rfl ?_
  refine g_iload_n C 0 dX12_readSaid_10 rfl rfl ?_
  refine g_bipush C (v := 27) dX12_readSaid_11 (by decide) ?_
  refine n_icmp_gt C (tgt := 30) (by decide) dX12_readSaid_13 (by decide) ?_
  refine g_aload_n C 2 dX12_readSaid_16 rfl rfl ?_
  refine g_iload_n C 0 dX12_readSaid_17 rfl rfl ?_
  refine g_callVI C K (m_isWord0 hLx hkx h7 18) hLx hkx (by decide) rfl v_12_191 rfl ⟨rfl, rfl⟩ ⟨Nat.le_of_ble_eq_true rfl, Nat.le_of_ble_eq_true rfl⟩ (Nat.le_of_ble_eq_true rfl) ⟨Nat.le_of_ble_eq_true rfl, Nat.le_of_ble_eq_true rfl⟩ dX12_readSaid_18 rfl (st := []) (fun r_1000 I_997 J_998 h_999 => ?_)
  obtain ⟨rfl, rfl, er_1000⟩ := h_999
  have h0r_1000 := er_1000
  subst er_1000
  refine n_if_ne C (tgt := 30) (by decide) dX12_readSaid_21 (by decide) ?_
  refine g_iinc C dX12_readSaid_24 (k := 0) (v := 19) rfl (by decide) (by decide) (lo2 := [(2, .int 19), (1, .int 0), (0, .ref x)]) rfl ?_
  refine g_goto C (tgt := 10) dX12_readSaid_27 (by decide) ?_
  refine g_iload_n C 0 dX12_readSaid_10 rfl rfl ?_
  refine g_bipush C (v := 27) dX12_readSaid_11 (by decide) ?_
  refine n_icmp_gt C (tgt := 30) (by decide) dX12_readSaid_13 (by decide) ?_
  refine g_aload_n C 2 dX12_readSaid_16 rfl rfl ?_
  refine g_iload_n C 0 dX12_readSaid_17 rfl rfl ?_
  refine g_callVI C K (m_isWord0 hLx hkx h7 19) hLx hkx (by decide) rfl v_12_191 rfl ⟨rfl, rfl⟩ ⟨Nat.le_of_ble_eq_true rfl, Nat.le_of_ble_eq_true rfl⟩ (Nat.le_of_ble_eq_true rfl) ⟨Nat.le_of_ble_eq_true rfl, Nat.le_of_ble_eq_true rfl⟩ dX12_readSaid_18 rfl (st := []) (fun r_1004 I_1001 J_1002 h_1003 => ?_)
  obtain ⟨rfl, rfl, er_1004⟩ := h_1003
  have h0r_1004 := er_1004
  subst er_1004
  refine n_if_ne C (tgt := 30) (by decide) dX12_readSaid_21 (by decide) ?_
  refine g_iinc C dX12_readSaid_24 (k := 0) (v := 20) rfl (by decide) (by decide) (lo2 := [(2, .int 20), (1, .int 0), (0, .ref x)]) rfl ?_
  refine g_goto C (tgt := 10) dX12_readSaid_27 (by decide) ?_
  refine g_iload_n C 0 dX12_readSaid_10 rfl rfl ?_
  refine g_bipush C (v := 27) dX12_readSaid_11 (by decide) ?_
  refine n_icmp_gt C (tgt := 30) (by decide) dX12_readSaid_13 (by decide) ?_
  refine g_aload_n C 2 dX12_readSaid_16 rfl rfl ?_
  refine g_iload_n C 0 dX12_readSaid_17 rfl rfl ?_
  refine g_callVI C K (m_isWord0 hLx hkx h7 20) hLx hkx (by decide) rfl v_12_191 rfl ⟨rfl, rfl⟩ ⟨Nat.le_of_ble_eq_true rfl, Nat.le_of_ble_eq_true rfl⟩ (Nat.le_of_ble_eq_true rfl) ⟨Nat.le_of_ble_eq_true rfl, Nat.le_of_ble_eq_true rfl⟩ dX12_readSaid_18 rfl (st := []) (fun r_1008 I_1005 J_1006 h_1007 => ?_)
  obtain ⟨rfl, rfl, er_1008⟩ := h_1007
  have h0r_1008 := er_1008
  subst er_1008
  refine n_if_ne C (tgt := 30) (by decide) dX12_readSaid_21 (by decide) ?_
  refine g_iinc C dX12_readSaid_24 (k := 0) (v := 21) rfl (by decide) (by decide) (lo2 := [(2, .int 21), (1, .int 0), (0, .ref x)]) rfl ?_
  refine g_goto C (tgt := 10) dX12_readSaid_27 (by decide) ?_
  refine g_iload_n C 0 dX12_readSaid_10 rfl rfl ?_
  refine g_bipush C (v := 27) dX12_readSaid_11 (by decide) ?_
  refine n_icmp_gt C (tgt := 30) (by decide) dX12_readSaid_13 (by decide) ?_
  refine g_aload_n C 2 dX12_readSaid_16 rfl rfl ?_
  refine g_iload_n C 0 dX12_readSaid_17 rfl rfl ?_
  refine g_callVI C K (m_isWord0 hLx hkx h7 21) hLx hkx (by decide) rfl v_12_191 rfl ⟨rfl, rfl⟩ ⟨Nat.le_of_ble_eq_true rfl, Nat.le_of_ble_eq_true rfl⟩ (Nat.le_of_ble_eq_true rfl) ⟨Nat.le_of_ble_eq_true rfl, Nat.le_of_ble_eq_true rfl⟩ dX12_readSaid_18 rfl (st := []) (fun r_1012 I_1009 J_1010 h_1011 => ?_)
  obtain ⟨rfl, rfl, er_1012⟩ := h_1011
  have h0r_1012 := er_1012
  subst er_1012
  refine n_if_ne C (tgt := 30) (by decide) dX12_readSaid_21 (by decide) ?_
  refine g_iinc C dX12_readSaid_24 (k := 0) (v := 22) rfl (by decide) (by decide) (lo2 := [(2, .int 22), (1, .int 0), (0, .ref x)]) rfl ?_
  refine g_goto C (tgt := 10) dX12_readSaid_27 (by decide) ?_
  refine g_iload_n C 0 dX12_readSaid_10 rfl rfl ?_
  refine g_bipush C (v := 27) dX12_readSaid_11 (by decide) ?_
  refine n_icmp_gt C (tgt := 30) (by decide) dX12_readSaid_13 (by decide) ?_
  refine g_aload_n C 2 dX12_readSaid_16 rfl rfl ?_
  refine g_iload_n C 0 dX12_readSaid_17 rfl rfl ?_
  refine g_callVI C K (m_isWord0 hLx hkx h7 22) hLx hkx (by decide) rfl v_12_191 rfl ⟨rfl, rfl⟩ ⟨Nat.le_of_ble_eq_true rfl, Nat.le_of_ble_eq_true rfl⟩ (Nat.le_of_ble_eq_true rfl) ⟨Nat.le_of_ble_eq_true rfl, Nat.le_of_ble_eq_true rfl⟩ dX12_readSaid_18 rfl (st := []) (fun r_1016 I_1013 J_1014 h_1015 => ?_)
  obtain ⟨rfl, rfl, er_1016⟩ := h_1015
  have h0r_1016 := er_1016
  subst er_1016
  refine n_if_ne C (tgt := 30) (by decide) dX12_readSaid_21 (by decide) ?_
  refine g_iinc C dX12_readSaid_24 (k := 0) (v := 23) rfl (by decide) (by decide) (lo2 := [(2, .int 23), (1, .int 0), (0, .ref x)]) rfl ?_
  refine g_goto C (tgt := 10) dX12_readSaid_27 (by decide) ?_
  refine g_iload_n C 0 dX12_readSaid_10 rfl rfl ?_
  refine g_bipush C (v := 27) dX12_readSaid_11 (by decide) ?_
  refine n_icmp_gt C (tgt := 30) (by decide) dX12_readSaid_13 (by decide) ?_
  refine g_aload_n C 2 dX12_readSaid_16 rfl rfl ?_
  refine g_iload_n C 0 dX12_readSaid_17 rfl rfl ?_
  refine g_callVI C K (m_isWord0 hLx hkx h7 23) hLx hkx (by decide) rfl v_12_191 rfl ⟨rfl, rfl⟩ ⟨Nat.le_of_ble_eq_true rfl, Nat.le_of_ble_eq_true rfl⟩ (Nat.le_of_ble_eq_true rfl) ⟨Nat.le_of_ble_eq_true rfl, Nat.le_of_ble_eq_true rfl⟩ dX12_readSaid_18 rfl (st := []) (fun r_1020 I_1017 J_1018 h_1019 => ?_)
  obtain ⟨rfl, rfl, er_1020⟩ := h_1019
  have h0r_1020 := er_1020
  subst er_1020
  refine n_if_ne C (tgt := 30) (by decide) dX12_readSaid_21 (by decide) ?_
  refine g_iinc C dX12_readSaid_24 (k := 0) (v := 24) rfl (by decide) (by decide) (lo2 := [(2, .int 24), (1, .int 0), (0, .ref x)]) rfl ?_
  refine g_goto C (tgt := 10) dX12_readSaid_27 (by decide) ?_
  refine g_iload_n C 0 dX12_readSaid_10 rfl rfl ?_
  refine g_bipush C (v := 27) dX12_readSaid_11 (by decide) ?_
  refine n_icmp_gt C (tgt := 30) (by decide) dX12_readSaid_13 (by decide) ?_
  refine g_aload_n C 2 dX12_readSaid_16 rfl rfl ?_
  refine g_iload_n C 0 dX12_readSaid_17 rfl rfl ?_
  refine g_callVI C K (m_isWord0 hLx hkx h7 24) hLx hkx (by decide) rfl v_12_191 rfl ⟨rfl, rfl⟩ ⟨Nat.le_of_ble_eq_true rfl, Nat.le_of_ble_eq_true rfl⟩ (Nat.le_of_ble_eq_true rfl) ⟨Nat.le_of_ble_eq_true rfl, Nat.le_of_ble_eq_true rfl⟩ dX12_readSaid_18 rfl (st := []) (fun r_1024 I_1021 J_1022 h_1023 => ?_)
  obtain ⟨rfl, rfl, er_1024⟩ := h_1023
  have h0r_1024 := er_1024
  subst er_1024
  refine n_if_ne C (tgt := 30) (by decide) dX12_readSaid_21 (by decide) ?_
  refine g_iinc C dX12_readSaid_24 (k := 0) (v := 25) rfl (by decide) (by decide) (lo2 := [(2, .int 25), (1, .int 0), (0, .ref x)]) rfl ?_
  refine g_goto C (tgt := 10) dX12_readSaid_27 (by decide) ?_
  refine g_iload_n C 0 dX12_readSaid_10 rfl rfl ?_
  refine g_bipush C (v := 27) dX12_readSaid_11 (by decide) ?_
  refine n_icmp_gt C (tgt := 30) (by decide) dX12_readSaid_13 (by decide) ?_
  refine g_aload_n C 2 dX12_readSaid_16 rfl rfl ?_
  refine g_iload_n C 0 dX12_readSaid_17 rfl rfl ?_
  refine g_callVI C K (m_isWord0 hLx hkx h7 25) hLx hkx (by decide) rfl v_12_191 rfl ⟨rfl, rfl⟩ ⟨Nat.le_of_ble_eq_true rfl, Nat.le_of_ble_eq_true rfl⟩ (Nat.le_of_ble_eq_true rfl) ⟨Nat.le_of_ble_eq_true rfl, Nat.le_of_ble_eq_true rfl⟩ dX12_readSaid_18 rfl (st := []) (fun r_1028 I_1025 J_1026 h_1027 => ?_)
  obtain ⟨rfl, rfl, er_1028⟩ := h_1027
  have h0r_1028 := er_1028
  subst er_1028
  refine n_if_ne C (tgt := 30) (by decide) dX12_readSaid_21 (by decide) ?_
  refine g_iinc C dX12_readSaid_24 (k := 0) (v := 26) rfl (by decide) (by decide) (lo2 := [(2, .int 26), (1, .int 0), (0, .ref x)]) rfl ?_
  refine g_goto C (tgt := 10) dX12_readSaid_27 (by decide) ?_
  refine g_iload_n C 0 dX12_readSaid_10 rfl rfl ?_
  refine g_bipush C (v := 27) dX12_readSaid_11 (by decide) ?_
  refine n_icmp_gt C (tgt := 30) (by decide) dX12_readSaid_13 (by decide) ?_
  refine g_aload_n C 2 dX12_readSaid_16 rfl rfl ?_
  refine g_iload_n C 0 dX12_readSaid_17 rfl rfl ?_
  refine g_callVI C K (m_isWord0 hLx hkx h7 26) hLx hkx (by decide) rfl v_12_191 rfl ⟨rfl, rfl⟩ ⟨Nat.le_of_ble_eq_true rfl, Nat.le_of_ble_eq_true rfl⟩ (Nat.le_of_ble_eq_true rfl) ⟨Nat.le_of_ble_eq_true rfl, Nat.le_of_ble_eq_true rfl⟩ dX12_readSaid_18 rfl (st := []) (fun r_1032 I_1029 J_1030 h_1031 => ?_)
  obtain ⟨rfl, rfl, er_1032⟩ := h_1031
  have h0r_1032 := er_1032
  subst er_1032
  refine n_if_ne C (tgt := 30) (by decide) dX12_readSaid_21 (by decide) ?_
  refine g_iinc C dX12_readSaid_24 (k := 0) (v := 27) rfl (by decide) (by decide) (lo2 := [(2, .int 27), (1, .int 0), (0, .ref x)]) rfl ?_
  refine g_goto C (tgt := 10) dX12_readSaid_27 (by decide) ?_
  refine g_iload_n C 0 dX12_readSaid_10 rfl rfl ?_
  refine g_bipush C (v := 27) dX12_readSaid_11 (by decide) ?_
  refine n_icmp_gt C (tgt := 30) (by decide) dX12_readSaid_13 (by decide) ?_
  refine g_aload_n C 2 dX12_readSaid_16 rfl rfl ?_
  refine g_iload_n C 0 dX12_readSaid_17 rfl rfl ?_
  refine g_callVI C K (m_isWord0 hLx hkx h7 27) hLx hkx (by decide) rfl v_12_191 rfl ⟨rfl, rfl⟩ ⟨Nat.le_of_ble_eq_true rfl, Nat.le_of_ble_eq_true rfl⟩ (Nat.le_of_ble_eq_true rfl) ⟨Nat.le_of_ble_eq_true rfl, Nat.le_of_ble_eq_true rfl⟩ dX12_readSaid_18 rfl (st := []) (fun r_1036 I_1033 J_1034 h_1035 => ?_)
  obtain ⟨rfl, rfl, er_1036⟩ := h_1035
  have h0r_1036 := er_1036
  subst er_1036
  refine n_if_ne C (tgt := 30) (by decide) dX12_readSaid_21 (by decide) ?_
  refine g_iinc C dX12_readSaid_24 (k := 0) (v := 28) rfl (by decide) (by decide) (lo2 := [(2, .int 28), (1, .int 0), (0, .ref x)]) rfl ?_
  refine g_goto C (tgt := 10) dX12_readSaid_27 (by decide) ?_
  refine g_iload_n C 0 dX12_readSaid_10 rfl rfl ?_
  refine g_bipush C (v := 27) dX12_readSaid_11 (by decide) ?_
  refine t_icmp_gt C (tgt := 30) (by decide) dX12_readSaid_13 (by decide) ?_
  refine g_iload_n C 1 dX12_readSaid_30 rfl rfl ?_
  refine n_if_ne C (tgt := 46) (by decide) dX12_readSaid_31 (by decide) ?_
  refine g_iload_n C 0 dX12_readSaid_34 rfl rfl ?_
  refine g_bipush C (v := 27) dX12_readSaid_35 (by decide) ?_
  refine n_icmp_le C (tgt := 46) (by decide) dX12_readSaid_37 (by decide) ?_
  refine g_aload_n C 2 dX12_readSaid_40 rfl rfl ?_
  refine g_iconst C (v := 1) dX12_readSaid_41 (by decide) ?_
  refine g_callVI C K (m_bad0 hLx hkx (h7) (h6)) hLx hkx (by decide) rfl v_12_146 rfl ⟨rfl, rfl⟩ ⟨Nat.le_of_ble_eq_true rfl, Nat.le_of_ble_eq_true rfl⟩ (Nat.le_of_ble_eq_true rfl) ⟨Nat.le_of_ble_eq_true rfl, Nat.le_of_ble_eq_true rfl⟩ dX12_readSaid_42 rfl (st := []) (fun r_1040 I_1037 J_1038 h_1039 => ?_)
  obtain ⟨rfl, f_1041, v_1043, v_1044, rfl⟩ := h_1039
  exact g_zret (ty := .boolean) (r := 0) B K rfl (by decide) (⟨rfl, (Fk.rf).tr f_1041 (by decide), v_1044, rfl⟩) dX12_readSaid_45
set_option maxRecDepth 100000 in
set_option maxHeartbeats 4000000 in
theorem m_readAnd0 {l : Launch} {D : va_G} {cy : Nat → ClassId} {L : List Nat} {κ ln : Nat → Nat} {R : Nat → Nat → Option Nat} {I : Nat → Nat → Int32} {J : Nat → Nat → Int64} {x : Nat} (hLx : x ∈ L) (hkx : κ x = 12) (h6 : I x 6 = 0) (h7 : I x 7 = 0) : CtI l yX12_readAnd cX12_readAnd 2 (some .boolean) { frames := 2, cells := 0, slots := 0, locals := 150 } D cy L κ ln R I J [.ref x] (fun r I2 J2 => J = J2 ∧ Fk κ [12] I I2 ∧ I2 x 11 = 0 ∧ r = 0) := by
  refine CtI.of (by decide +kernel) (Nat.le_of_ble_eq_true rfl) ?_
  intro p e s m below meth c B K
  have C := B.1
  refine g_lo (is := [0]) (lo2 := [(0, .ref x)]) rfl ?_
  refine g_aload_n C 0 dX12_readAnd_0 rfl rfl ?_
  refine g_callVI C K (m_readSaid0 hLx hkx (h6) (h7)) hLx hkx (by decide) rfl v_12_392 rfl ⟨rfl, rfl⟩ ⟨Nat.le_of_ble_eq_true rfl, Nat.le_of_ble_eq_true rfl⟩ (Nat.le_of_ble_eq_true rfl) ⟨Nat.le_of_ble_eq_true rfl, Nat.le_of_ble_eq_true rfl⟩ dX12_readAnd_1 rfl (st := []) (fun r_1048 I_1045 J_1046 h_1047 => ?_)
  obtain ⟨rfl, f_1049, v_1051, rfl⟩ := h_1047
  refine n_if_ne C (tgt := 9) (by decide) dX12_readAnd_4 (by decide) ?_
  refine g_iconst C (v := 0) dX12_readAnd_7 (by decide) ?_
  exact g_zret (ty := .boolean) (r := 0) B K rfl (by decide) (⟨rfl, (Fk.rf).tr f_1049 (by decide), v_1051, rfl⟩) dX12_readAnd_8
set_option maxRecDepth 100000 in
set_option maxHeartbeats 4000000 in
theorem m_readOr0 {l : Launch} {D : va_G} {cy : Nat → ClassId} {L : List Nat} {κ ln : Nat → Nat} {R : Nat → Nat → Option Nat} {I : Nat → Nat → Int32} {J : Nat → Nat → Int64} {x : Nat} (hLx : x ∈ L) (hkx : κ x = 12) (h6 : I x 6 = 0) (h7 : I x 7 = 0) : CtI l yX12_readOr cX12_readOr 2 (some .boolean) { frames := 3, cells := 0, slots := 0, locals := 200 } D cy L κ ln R I J [.ref x] (fun r I2 J2 => J = J2 ∧ Fk κ [12] I I2 ∧ I2 x 11 = 0 ∧ r = 0) := by
  refine CtI.of (by decide +kernel) (Nat.le_of_ble_eq_true rfl) ?_
  intro p e s m below meth c B K
  have C := B.1
  refine g_lo (is := [0]) (lo2 := [(0, .ref x)]) rfl ?_
  refine g_aload_n C 0 dX12_readOr_0 rfl rfl ?_
  refine g_callVI C K (m_readAnd0 hLx hkx (h6) (h7)) hLx hkx (by decide) rfl v_12_383 rfl ⟨rfl, rfl⟩ ⟨Nat.le_of_ble_eq_true rfl, Nat.le_of_ble_eq_true rfl⟩ (Nat.le_of_ble_eq_true rfl) ⟨Nat.le_of_ble_eq_true rfl, Nat.le_of_ble_eq_true rfl⟩ dX12_readOr_1 rfl (st := []) (fun r_1055 I_1052 J_1053 h_1054 => ?_)
  obtain ⟨rfl, f_1056, v_1058, rfl⟩ := h_1054
  refine n_if_ne C (tgt := 9) (by decide) dX12_readOr_4 (by decide) ?_
  refine g_iconst C (v := 0) dX12_readOr_7 (by decide) ?_
  exact g_zret (ty := .boolean) (r := 0) B K rfl (by decide) (⟨rfl, (Fk.rf).tr f_1056 (by decide), v_1058, rfl⟩) dX12_readOr_8
