theorem dX0_init_0 : decode cX0_init 0 = .ok (.aload_n 0, 1) := by decide +kernel
theorem dX0_init_1 : decode cX0_init 1 = .ok (.invokespecial 3, 3) := by decide +kernel
theorem dX0_init_4 : decode cX0_init 4 = .ok (.aload_n 0, 1) := by decide +kernel
theorem dX0_init_5 : decode cX0_init 5 = .ok (.bipush 40, 2) := by decide +kernel
theorem dX0_init_7 : decode cX0_init 7 = .ok (.newarray .int, 2) := by decide +kernel
theorem dX0_init_9 : decode cX0_init 9 = .ok (.putfield 11, 3) := by decide +kernel
theorem dX0_init_12 : decode cX0_init 12 = .ok (.aload_n 0, 1) := by decide +kernel
theorem dX0_init_13 : decode cX0_init 13 = .ok (.bipush 40, 2) := by decide +kernel
theorem dX0_init_15 : decode cX0_init 15 = .ok (.newarray .int, 2) := by decide +kernel
theorem dX0_init_17 : decode cX0_init 17 = .ok (.putfield 15, 3) := by decide +kernel
theorem dX0_init_20 : decode cX0_init 20 = .ok (.aload_n 0, 1) := by decide +kernel
theorem dX0_init_21 : decode cX0_init 21 = .ok (.bipush 40, 2) := by decide +kernel
theorem dX0_init_23 : decode cX0_init 23 = .ok (.newarray .int, 2) := by decide +kernel
theorem dX0_init_25 : decode cX0_init 25 = .ok (.putfield 18, 3) := by decide +kernel
theorem dX0_init_28 : decode cX0_init 28 = .ok (.aload_n 0, 1) := by decide +kernel
theorem dX0_init_29 : decode cX0_init 29 = .ok (.bipush 40, 2) := by decide +kernel
theorem dX0_init_31 : decode cX0_init 31 = .ok (.newarray .int, 2) := by decide +kernel
theorem dX0_init_33 : decode cX0_init 33 = .ok (.putfield 21, 3) := by decide +kernel
theorem dX0_init_36 : decode cX0_init 36 = .ok (.aload_n 0, 1) := by decide +kernel
theorem dX0_init_37 : decode cX0_init 37 = .ok (.iconst 0, 1) := by decide +kernel
theorem dX0_init_38 : decode cX0_init 38 = .ok (.putfield 24, 3) := by decide +kernel
theorem dX0_init_41 : decode cX0_init 41 = .ok (.aload_n 0, 1) := by decide +kernel
theorem dX0_init_42 : decode cX0_init 42 = .ok (.iconst 0, 1) := by decide +kernel
theorem dX0_init_43 : decode cX0_init 43 = .ok (.putfield 28, 3) := by decide +kernel
theorem dX0_init_46 : decode cX0_init 46 = .ok (.aload_n 0, 1) := by decide +kernel
theorem dX0_init_47 : decode cX0_init 47 = .ok (.iconst 0, 1) := by decide +kernel
theorem dX0_init_48 : decode cX0_init 48 = .ok (.putfield 32, 3) := by decide +kernel
theorem dX0_init_51 : decode cX0_init 51 = .ok (.aload_n 0, 1) := by decide +kernel
theorem dX0_init_52 : decode cX0_init 52 = .ok (.iconst 0, 1) := by decide +kernel
theorem dX0_init_53 : decode cX0_init 53 = .ok (.putfield 35, 3) := by decide +kernel
theorem dX0_init_56 : decode cX0_init 56 = .ok (.aload_n 0, 1) := by decide +kernel
theorem dX0_init_57 : decode cX0_init 57 = .ok (.iconst 0, 1) := by decide +kernel
theorem dX0_init_58 : decode cX0_init 58 = .ok (.putfield 38, 3) := by decide +kernel
theorem dX0_init_61 : decode cX0_init 61 = .ok (.aload_n 0, 1) := by decide +kernel
theorem dX0_init_62 : decode cX0_init 62 = .ok (.iconst 0, 1) := by decide +kernel
theorem dX0_init_63 : decode cX0_init 63 = .ok (.putfield 41, 3) := by decide +kernel
theorem dX0_init_66 : decode cX0_init 66 = .ok (.return_, 1) := by decide +kernel
theorem dX12_init_0 : decode cX12_init 0 = .ok (.aload_n 0, 1) := by decide +kernel
theorem dX12_init_1 : decode cX12_init 1 = .ok (.invokespecial 1, 3) := by decide +kernel
theorem dX12_init_4 : decode cX12_init 4 = .ok (.aload_n 0, 1) := by decide +kernel
theorem dX12_init_5 : decode cX12_init 5 = .ok (.sipush 940, 3) := by decide +kernel
theorem dX12_init_8 : decode cX12_init 8 = .ok (.newarray .int, 2) := by decide +kernel
theorem dX12_init_10 : decode cX12_init 10 = .ok (.putfield 7, 3) := by decide +kernel
theorem dX12_init_13 : decode cX12_init 13 = .ok (.aload_n 0, 1) := by decide +kernel
theorem dX12_init_14 : decode cX12_init 14 = .ok (.sipush 389, 3) := by decide +kernel
theorem dX12_init_17 : decode cX12_init 17 = .ok (.newarray .int, 2) := by decide +kernel
theorem dX12_init_19 : decode cX12_init 19 = .ok (.putfield 13, 3) := by decide +kernel
theorem dX12_init_22 : decode cX12_init 22 = .ok (.aload_n 0, 1) := by decide +kernel
theorem dX12_init_23 : decode cX12_init 23 = .ok (.bipush 72, 2) := by decide +kernel
theorem dX12_init_25 : decode cX12_init 25 = .ok (.newarray .int, 2) := by decide +kernel
theorem dX12_init_27 : decode cX12_init 27 = .ok (.putfield 16, 3) := by decide +kernel
theorem dX12_init_30 : decode cX12_init 30 = .ok (.aload_n 0, 1) := by decide +kernel
theorem dX12_init_31 : decode cX12_init 31 = .ok (.sipush 778, 3) := by decide +kernel
theorem dX12_init_34 : decode cX12_init 34 = .ok (.newarray .int, 2) := by decide +kernel
theorem dX12_init_36 : decode cX12_init 36 = .ok (.putfield 19, 3) := by decide +kernel
theorem dX12_init_39 : decode cX12_init 39 = .ok (.aload_n 0, 1) := by decide +kernel
theorem dX12_init_40 : decode cX12_init 40 = .ok (.sipush 600, 3) := by decide +kernel
theorem dX12_init_43 : decode cX12_init 43 = .ok (.newarray .int, 2) := by decide +kernel
theorem dX12_init_45 : decode cX12_init 45 = .ok (.putfield 22, 3) := by decide +kernel
theorem dX12_init_48 : decode cX12_init 48 = .ok (.aload_n 0, 1) := by decide +kernel
theorem dX12_init_49 : decode cX12_init 49 = .ok (.bipush 75, 2) := by decide +kernel
theorem dX12_init_51 : decode cX12_init 51 = .ok (.newarray .int, 2) := by decide +kernel
theorem dX12_init_53 : decode cX12_init 53 = .ok (.putfield 25, 3) := by decide +kernel
theorem dX12_init_56 : decode cX12_init 56 = .ok (.aload_n 0, 1) := by decide +kernel
theorem dX12_init_57 : decode cX12_init 57 = .ok (.bipush 13, 2) := by decide +kernel
theorem dX12_init_59 : decode cX12_init 59 = .ok (.newarray .long, 2) := by decide +kernel
theorem dX12_init_61 : decode cX12_init 61 = .ok (.putfield 28, 3) := by decide +kernel
theorem dX12_init_64 : decode cX12_init 64 = .ok (.aload_n 0, 1) := by decide +kernel
theorem dX12_init_65 : decode cX12_init 65 = .ok (.bipush 13, 2) := by decide +kernel
theorem dX12_init_67 : decode cX12_init 67 = .ok (.newarray .long, 2) := by decide +kernel
theorem dX12_init_69 : decode cX12_init 69 = .ok (.putfield 32, 3) := by decide +kernel
theorem dX12_init_72 : decode cX12_init 72 = .ok (.aload_n 0, 1) := by decide +kernel
theorem dX12_init_73 : decode cX12_init 73 = .ok (.bipush 26, 2) := by decide +kernel
theorem dX12_init_75 : decode cX12_init 75 = .ok (.newarray .long, 2) := by decide +kernel
theorem dX12_init_77 : decode cX12_init 77 = .ok (.putfield 35, 3) := by decide +kernel
theorem dX12_init_80 : decode cX12_init 80 = .ok (.aload_n 0, 1) := by decide +kernel
theorem dX12_init_81 : decode cX12_init 81 = .ok (.iconst 2, 1) := by decide +kernel
theorem dX12_init_82 : decode cX12_init 82 = .ok (.newarray .boolean, 2) := by decide +kernel
theorem dX12_init_84 : decode cX12_init 84 = .ok (.putfield 38, 3) := by decide +kernel
theorem dX12_init_87 : decode cX12_init 87 = .ok (.aload_n 0, 1) := by decide +kernel
theorem dX12_init_88 : decode cX12_init 88 = .ok (.bipush 7, 2) := by decide +kernel
theorem dX12_init_90 : decode cX12_init 90 = .ok (.newarray .int, 2) := by decide +kernel
theorem dX12_init_92 : decode cX12_init 92 = .ok (.putfield 42, 3) := by decide +kernel
theorem dX12_init_95 : decode cX12_init 95 = .ok (.aload_n 0, 1) := by decide +kernel
theorem dX12_init_96 : decode cX12_init 96 = .ok (.bipush 7, 2) := by decide +kernel
theorem dX12_init_98 : decode cX12_init 98 = .ok (.newarray .int, 2) := by decide +kernel
theorem dX12_init_100 : decode cX12_init 100 = .ok (.putfield 45, 3) := by decide +kernel
theorem dX12_init_103 : decode cX12_init 103 = .ok (.aload_n 0, 1) := by decide +kernel
theorem dX12_init_104 : decode cX12_init 104 = .ok (.sipush 525, 3) := by decide +kernel
theorem dX12_init_107 : decode cX12_init 107 = .ok (.newarray .int, 2) := by decide +kernel
theorem dX12_init_109 : decode cX12_init 109 = .ok (.putfield 48, 3) := by decide +kernel
theorem dX12_init_112 : decode cX12_init 112 = .ok (.aload_n 0, 1) := by decide +kernel
theorem dX12_init_113 : decode cX12_init 113 = .ok (.bipush 7, 2) := by decide +kernel
theorem dX12_init_115 : decode cX12_init 115 = .ok (.newarray .int, 2) := by decide +kernel
theorem dX12_init_117 : decode cX12_init 117 = .ok (.putfield 51, 3) := by decide +kernel
theorem dX12_init_120 : decode cX12_init 120 = .ok (.aload_n 0, 1) := by decide +kernel
theorem dX12_init_121 : decode cX12_init 121 = .ok (.iconst (-1), 1) := by decide +kernel
theorem dX12_init_122 : decode cX12_init 122 = .ok (.putfield 54, 3) := by decide +kernel
theorem dX12_init_125 : decode cX12_init 125 = .ok (.aload_n 0, 1) := by decide +kernel
theorem dX12_init_126 : decode cX12_init 126 = .ok (.iconst (-1), 1) := by decide +kernel
theorem dX12_init_127 : decode cX12_init 127 = .ok (.putfield 58, 3) := by decide +kernel
theorem dX12_init_130 : decode cX12_init 130 = .ok (.aload_n 0, 1) := by decide +kernel
theorem dX12_init_131 : decode cX12_init 131 = .ok (.sipush 500, 3) := by decide +kernel
theorem dX12_init_134 : decode cX12_init 134 = .ok (.newarray .boolean, 2) := by decide +kernel
theorem dX12_init_136 : decode cX12_init 136 = .ok (.putfield 61, 3) := by decide +kernel
theorem dX12_init_139 : decode cX12_init 139 = .ok (.aload_n 0, 1) := by decide +kernel
theorem dX12_init_140 : decode cX12_init 140 = .ok (.bipush 7, 2) := by decide +kernel
theorem dX12_init_142 : decode cX12_init 142 = .ok (.newarray .int, 2) := by decide +kernel
theorem dX12_init_144 : decode cX12_init 144 = .ok (.putfield 64, 3) := by decide +kernel
theorem dX12_init_147 : decode cX12_init 147 = .ok (.aload_n 0, 1) := by decide +kernel
theorem dX12_init_148 : decode cX12_init 148 = .ok (.bipush 7, 2) := by decide +kernel
theorem dX12_init_150 : decode cX12_init 150 = .ok (.newarray .int, 2) := by decide +kernel
theorem dX12_init_152 : decode cX12_init 152 = .ok (.putfield 67, 3) := by decide +kernel
theorem dX12_init_155 : decode cX12_init 155 = .ok (.aload_n 0, 1) := by decide +kernel
theorem dX12_init_156 : decode cX12_init 156 = .ok (.bipush 64, 2) := by decide +kernel
theorem dX12_init_158 : decode cX12_init 158 = .ok (.newarray .int, 2) := by decide +kernel
theorem dX12_init_160 : decode cX12_init 160 = .ok (.putfield 70, 3) := by decide +kernel
theorem dX12_init_163 : decode cX12_init 163 = .ok (.aload_n 0, 1) := by decide +kernel
theorem dX12_init_164 : decode cX12_init 164 = .ok (.sipush 160, 3) := by decide +kernel
theorem dX12_init_167 : decode cX12_init 167 = .ok (.newarray .int, 2) := by decide +kernel
theorem dX12_init_169 : decode cX12_init 169 = .ok (.putfield 73, 3) := by decide +kernel
theorem dX12_init_172 : decode cX12_init 172 = .ok (.aload_n 0, 1) := by decide +kernel
theorem dX12_init_173 : decode cX12_init 173 = .ok (.iconst 4, 1) := by decide +kernel
theorem dX12_init_174 : decode cX12_init 174 = .ok (.newarray .int, 2) := by decide +kernel
theorem dX12_init_176 : decode cX12_init 176 = .ok (.putfield 76, 3) := by decide +kernel
theorem dX12_init_179 : decode cX12_init 179 = .ok (.aload_n 0, 1) := by decide +kernel
theorem dX12_init_180 : decode cX12_init 180 = .ok (.sipush 240, 3) := by decide +kernel
theorem dX12_init_183 : decode cX12_init 183 = .ok (.newarray .int, 2) := by decide +kernel
theorem dX12_init_185 : decode cX12_init 185 = .ok (.putfield 79, 3) := by decide +kernel
theorem dX12_init_188 : decode cX12_init 188 = .ok (.return_, 1) := by decide +kernel
theorem dX1_init_0 : decode cX1_init 0 = .ok (.aload_n 0, 1) := by decide +kernel
theorem dX1_init_1 : decode cX1_init 1 = .ok (.invokespecial 3, 3) := by decide +kernel
theorem dX1_init_4 : decode cX1_init 4 = .ok (.aload_n 0, 1) := by decide +kernel
theorem dX1_init_5 : decode cX1_init 5 = .ok (.bipush 6, 2) := by decide +kernel
theorem dX1_init_7 : decode cX1_init 7 = .ok (.newarray .int, 2) := by decide +kernel
theorem dX1_init_9 : decode cX1_init 9 = .ok (.putfield 9, 3) := by decide +kernel
theorem dX1_init_12 : decode cX1_init 12 = .ok (.aload_n 0, 1) := by decide +kernel
theorem dX1_init_13 : decode cX1_init 13 = .ok (.bipush 42, 2) := by decide +kernel
theorem dX1_init_15 : decode cX1_init 15 = .ok (.newarray .int, 2) := by decide +kernel
theorem dX1_init_17 : decode cX1_init 17 = .ok (.putfield 15, 3) := by decide +kernel
theorem dX1_init_20 : decode cX1_init 20 = .ok (.aload_n 0, 1) := by decide +kernel
theorem dX1_init_21 : decode cX1_init 21 = .ok (.bipush 7, 2) := by decide +kernel
theorem dX1_init_23 : decode cX1_init 23 = .ok (.newarray .int, 2) := by decide +kernel
theorem dX1_init_25 : decode cX1_init 25 = .ok (.putfield 18, 3) := by decide +kernel
theorem dX1_init_28 : decode cX1_init 28 = .ok (.aload_n 0, 1) := by decide +kernel
theorem dX1_init_29 : decode cX1_init 29 = .ok (.bipush 7, 2) := by decide +kernel
theorem dX1_init_31 : decode cX1_init 31 = .ok (.newarray .int, 2) := by decide +kernel
theorem dX1_init_33 : decode cX1_init 33 = .ok (.putfield 21, 3) := by decide +kernel
theorem dX1_init_36 : decode cX1_init 36 = .ok (.aload_n 0, 1) := by decide +kernel
theorem dX1_init_37 : decode cX1_init 37 = .ok (.bipush 7, 2) := by decide +kernel
theorem dX1_init_39 : decode cX1_init 39 = .ok (.newarray .int, 2) := by decide +kernel
theorem dX1_init_41 : decode cX1_init 41 = .ok (.putfield 24, 3) := by decide +kernel
theorem dX1_init_44 : decode cX1_init 44 = .ok (.aload_n 0, 1) := by decide +kernel
theorem dX1_init_45 : decode cX1_init 45 = .ok (.bipush 7, 2) := by decide +kernel
theorem dX1_init_47 : decode cX1_init 47 = .ok (.newarray .int, 2) := by decide +kernel
theorem dX1_init_49 : decode cX1_init 49 = .ok (.putfield 27, 3) := by decide +kernel
theorem dX1_init_52 : decode cX1_init 52 = .ok (.aload_n 0, 1) := by decide +kernel
theorem dX1_init_53 : decode cX1_init 53 = .ok (.iconst 0, 1) := by decide +kernel
theorem dX1_init_54 : decode cX1_init 54 = .ok (.putfield 30, 3) := by decide +kernel
theorem dX1_init_57 : decode cX1_init 57 = .ok (.aload_n 0, 1) := by decide +kernel
theorem dX1_init_58 : decode cX1_init 58 = .ok (.iconst 0, 1) := by decide +kernel
theorem dX1_init_59 : decode cX1_init 59 = .ok (.putfield 34, 3) := by decide +kernel
theorem dX1_init_62 : decode cX1_init 62 = .ok (.aload_n 0, 1) := by decide +kernel
theorem dX1_init_63 : decode cX1_init 63 = .ok (.iconst 0, 1) := by decide +kernel
theorem dX1_init_64 : decode cX1_init 64 = .ok (.putfield 37, 3) := by decide +kernel
theorem dX1_init_67 : decode cX1_init 67 = .ok (.aload_n 0, 1) := by decide +kernel
theorem dX1_init_68 : decode cX1_init 68 = .ok (.iconst 0, 1) := by decide +kernel
theorem dX1_init_69 : decode cX1_init 69 = .ok (.putfield 40, 3) := by decide +kernel
theorem dX1_init_72 : decode cX1_init 72 = .ok (.aload_n 0, 1) := by decide +kernel
theorem dX1_init_73 : decode cX1_init 73 = .ok (.iconst 0, 1) := by decide +kernel
theorem dX1_init_74 : decode cX1_init 74 = .ok (.putfield 43, 3) := by decide +kernel
theorem dX1_init_77 : decode cX1_init 77 = .ok (.aload_n 0, 1) := by decide +kernel
theorem dX1_init_78 : decode cX1_init 78 = .ok (.iconst 0, 1) := by decide +kernel
theorem dX1_init_79 : decode cX1_init 79 = .ok (.putfield 46, 3) := by decide +kernel
theorem dX1_init_82 : decode cX1_init 82 = .ok (.aload_n 0, 1) := by decide +kernel
theorem dX1_init_83 : decode cX1_init 83 = .ok (.iconst 0, 1) := by decide +kernel
theorem dX1_init_84 : decode cX1_init 84 = .ok (.putfield 49, 3) := by decide +kernel
theorem dX1_init_87 : decode cX1_init 87 = .ok (.aload_n 0, 1) := by decide +kernel
theorem dX1_init_88 : decode cX1_init 88 = .ok (.aload_n 1, 1) := by decide +kernel
theorem dX1_init_89 : decode cX1_init 89 = .ok (.putfield 52, 3) := by decide +kernel
theorem dX1_init_92 : decode cX1_init 92 = .ok (.return_, 1) := by decide +kernel
theorem dX2_init_0 : decode cX2_init 0 = .ok (.aload_n 0, 1) := by decide +kernel
theorem dX2_init_1 : decode cX2_init 1 = .ok (.invokespecial 3, 3) := by decide +kernel
theorem dX2_init_4 : decode cX2_init 4 = .ok (.aload_n 0, 1) := by decide +kernel
theorem dX2_init_5 : decode cX2_init 5 = .ok (.bipush 7, 2) := by decide +kernel
theorem dX2_init_7 : decode cX2_init 7 = .ok (.newarray .int, 2) := by decide +kernel
theorem dX2_init_9 : decode cX2_init 9 = .ok (.putfield 9, 3) := by decide +kernel
theorem dX2_init_12 : decode cX2_init 12 = .ok (.aload_n 0, 1) := by decide +kernel
theorem dX2_init_13 : decode cX2_init 13 = .ok (.iconst (-1), 1) := by decide +kernel
theorem dX2_init_14 : decode cX2_init 14 = .ok (.putfield 15, 3) := by decide +kernel
theorem dX2_init_17 : decode cX2_init 17 = .ok (.aload_n 0, 1) := by decide +kernel
theorem dX2_init_18 : decode cX2_init 18 = .ok (.iconst (-1), 1) := by decide +kernel
theorem dX2_init_19 : decode cX2_init 19 = .ok (.putfield 19, 3) := by decide +kernel
theorem dX2_init_22 : decode cX2_init 22 = .ok (.return_, 1) := by decide +kernel
theorem dX6_init_0 : decode cX6_init 0 = .ok (.aload_n 0, 1) := by decide +kernel
theorem dX6_init_1 : decode cX6_init 1 = .ok (.invokespecial 3, 3) := by decide +kernel
theorem dX6_init_4 : decode cX6_init 4 = .ok (.aload_n 0, 1) := by decide +kernel
theorem dX6_init_5 : decode cX6_init 5 = .ok (.bipush 7, 2) := by decide +kernel
theorem dX6_init_7 : decode cX6_init 7 = .ok (.newarray .int, 2) := by decide +kernel
theorem dX6_init_9 : decode cX6_init 9 = .ok (.putfield 9, 3) := by decide +kernel
theorem dX6_init_12 : decode cX6_init 12 = .ok (.aload_n 0, 1) := by decide +kernel
theorem dX6_init_13 : decode cX6_init 13 = .ok (.iconst 0, 1) := by decide +kernel
theorem dX6_init_14 : decode cX6_init 14 = .ok (.putfield 15, 3) := by decide +kernel
theorem dX6_init_17 : decode cX6_init 17 = .ok (.return_, 1) := by decide +kernel
theorem dX7_init_0 : decode cX7_init 0 = .ok (.aload_n 0, 1) := by decide +kernel
theorem dX7_init_1 : decode cX7_init 1 = .ok (.invokespecial 5, 3) := by decide +kernel
theorem dX7_init_4 : decode cX7_init 4 = .ok (.aload_n 0, 1) := by decide +kernel
theorem dX7_init_5 : decode cX7_init 5 = .ok (.bipush 40, 2) := by decide +kernel
theorem dX7_init_7 : decode cX7_init 7 = .ok (.newarray .int, 2) := by decide +kernel
theorem dX7_init_9 : decode cX7_init 9 = .ok (.putfield 11, 3) := by decide +kernel
theorem dX7_init_12 : decode cX7_init 12 = .ok (.aload_n 0, 1) := by decide +kernel
theorem dX7_init_13 : decode cX7_init 13 = .ok (.bipush 40, 2) := by decide +kernel
theorem dX7_init_15 : decode cX7_init 15 = .ok (.newarray .int, 2) := by decide +kernel
theorem dX7_init_17 : decode cX7_init 17 = .ok (.putfield 15, 3) := by decide +kernel
theorem dX7_init_20 : decode cX7_init 20 = .ok (.aload_n 0, 1) := by decide +kernel
theorem dX7_init_21 : decode cX7_init 21 = .ok (.bipush 40, 2) := by decide +kernel
theorem dX7_init_23 : decode cX7_init 23 = .ok (.newarray .int, 2) := by decide +kernel
theorem dX7_init_25 : decode cX7_init 25 = .ok (.putfield 18, 3) := by decide +kernel
theorem dX7_init_28 : decode cX7_init 28 = .ok (.aload_n 0, 1) := by decide +kernel
theorem dX7_init_29 : decode cX7_init 29 = .ok (.bipush 40, 2) := by decide +kernel
theorem dX7_init_31 : decode cX7_init 31 = .ok (.newarray .int, 2) := by decide +kernel
theorem dX7_init_33 : decode cX7_init 33 = .ok (.putfield 21, 3) := by decide +kernel
theorem dX7_init_36 : decode cX7_init 36 = .ok (.aload_n 0, 1) := by decide +kernel
theorem dX7_init_37 : decode cX7_init 37 = .ok (.iconst 0, 1) := by decide +kernel
theorem dX7_init_38 : decode cX7_init 38 = .ok (.putfield 24, 3) := by decide +kernel
theorem dX7_init_41 : decode cX7_init 41 = .ok (.aload_n 0, 1) := by decide +kernel
theorem dX7_init_42 : decode cX7_init 42 = .ok (.iconst 0, 1) := by decide +kernel
theorem dX7_init_43 : decode cX7_init 43 = .ok (.putfield 28, 3) := by decide +kernel
theorem dX7_init_46 : decode cX7_init 46 = .ok (.return_, 1) := by decide +kernel
theorem dX8_init_0 : decode cX8_init 0 = .ok (.aload_n 0, 1) := by decide +kernel
theorem dX8_init_1 : decode cX8_init 1 = .ok (.invokespecial 3, 3) := by decide +kernel
theorem dX8_init_4 : decode cX8_init 4 = .ok (.aload_n 0, 1) := by decide +kernel
theorem dX8_init_5 : decode cX8_init 5 = .ok (.bipush 7, 2) := by decide +kernel
theorem dX8_init_7 : decode cX8_init 7 = .ok (.newarray .long, 2) := by decide +kernel
theorem dX8_init_9 : decode cX8_init 9 = .ok (.putfield 9, 3) := by decide +kernel
theorem dX8_init_12 : decode cX8_init 12 = .ok (.aload_n 0, 1) := by decide +kernel
theorem dX8_init_13 : decode cX8_init 13 = .ok (.bipush 7, 2) := by decide +kernel
theorem dX8_init_15 : decode cX8_init 15 = .ok (.newarray .int, 2) := by decide +kernel
theorem dX8_init_17 : decode cX8_init 17 = .ok (.putfield 15, 3) := by decide +kernel
theorem dX8_init_20 : decode cX8_init 20 = .ok (.aload_n 0, 1) := by decide +kernel
theorem dX8_init_21 : decode cX8_init 21 = .ok (.bipush 7, 2) := by decide +kernel
theorem dX8_init_23 : decode cX8_init 23 = .ok (.newarray .int, 2) := by decide +kernel
theorem dX8_init_25 : decode cX8_init 25 = .ok (.putfield 19, 3) := by decide +kernel
theorem dX8_init_28 : decode cX8_init 28 = .ok (.aload_n 0, 1) := by decide +kernel
theorem dX8_init_29 : decode cX8_init 29 = .ok (.bipush 6, 2) := by decide +kernel
theorem dX8_init_31 : decode cX8_init 31 = .ok (.newarray .long, 2) := by decide +kernel
theorem dX8_init_33 : decode cX8_init 33 = .ok (.putfield 22, 3) := by decide +kernel
theorem dX8_init_36 : decode cX8_init 36 = .ok (.aload_n 0, 1) := by decide +kernel
theorem dX8_init_37 : decode cX8_init 37 = .ok (.bipush 6, 2) := by decide +kernel
theorem dX8_init_39 : decode cX8_init 39 = .ok (.newarray .int, 2) := by decide +kernel
theorem dX8_init_41 : decode cX8_init 41 = .ok (.putfield 25, 3) := by decide +kernel
theorem dX8_init_44 : decode cX8_init 44 = .ok (.aload_n 0, 1) := by decide +kernel
theorem dX8_init_45 : decode cX8_init 45 = .ok (.iconst 0, 1) := by decide +kernel
theorem dX8_init_46 : decode cX8_init 46 = .ok (.putfield 28, 3) := by decide +kernel
theorem dX8_init_49 : decode cX8_init 49 = .ok (.aload_n 0, 1) := by decide +kernel
theorem dX8_init_50 : decode cX8_init 50 = .ok (.iconst 0, 1) := by decide +kernel
theorem dX8_init_51 : decode cX8_init 51 = .ok (.putfield 32, 3) := by decide +kernel
theorem dX8_init_54 : decode cX8_init 54 = .ok (.aload_n 0, 1) := by decide +kernel
theorem dX8_init_55 : decode cX8_init 55 = .ok (.iconst 0, 1) := by decide +kernel
theorem dX8_init_56 : decode cX8_init 56 = .ok (.putfield 35, 3) := by decide +kernel
theorem dX8_init_59 : decode cX8_init 59 = .ok (.aload_n 0, 1) := by decide +kernel
theorem dX8_init_60 : decode cX8_init 60 = .ok (.iconst 0, 1) := by decide +kernel
theorem dX8_init_61 : decode cX8_init 61 = .ok (.putfield 38, 3) := by decide +kernel
theorem dX8_init_64 : decode cX8_init 64 = .ok (.return_, 1) := by decide +kernel
set_option maxRecDepth 100000 in
set_option maxHeartbeats 4000000 in
theorem i_8 {l : Launch} {D : va_G} {cy : Nat → ClassId} {L : List Nat} {κ ln : Nat → Nat} {R : Nat → Nat → Option Nat} {I : Nat → Nat → Int32} {J : Nat → Nat → Int64} {ow : Nat → Nat × Nat} {a : Nat} (ha : a ∈ L) (hk : κ a = 8) (hz : ∀ j, I a j = 0) : CtN l yX8_init cX8_init 1 { frames := 1, cells := 5, slots := 33, locals := 60 } 5 33 D cy L κ ln R I J En_ [.ref a] (Pi_ a L κ ln R ow I J) := by
  refine CtN.of (by decide +kernel) (Nat.le_of_ble_eq_true rfl) ?_
  intro p e s m below meth c B K hN
  have C := B.1
  have hin : meth.name = "<init>" := B.2.2.2
  have hA : ∀ q, s.heap.size ≤ q → AN_ L s.heap.size q := fun q h => Or.inr h
  refine g_lo (is := [0]) (lo2 := [(0, .ref a)]) rfl ?_
  refine g_aload_n C 0 dX8_init_0 rfl rfl ?_
  refine a_obj C oi_8_3 (Nat.le_of_ble_eq_true rfl) (Nat.le_of_ble_eq_true rfl) dX8_init_1 ?_
  refine g_aload_n C 0 dX8_init_4 rfl rfl ?_
  refine g_bipush C (v := 7) dX8_init_5 (by decide) ?_
  refine a_newJ (ow := ow) C K hA (a, 0) 7 (by decide) (by decide) (by decide) ar_long ⟨Nat.le_of_ble_eq_true rfl, Nat.le_of_ble_eq_true rfl⟩ dX8_init_7 (fun q1 L2 κ3 ln4 R5 I6 J7 ow8 hq9 K10 => ?_)
  have hE11 := hq9.2.2.2.2.2.2.2.2
  have md12 := (Md.rf : Md a L κ ln R ow I J L κ ln R ow I J).ex hE11 (hq9.gd (by decide))
  have z13 : ∀ j, I6 a j = 0 := fun j => ((hE11 a ha).2.2.2.2.1 j).trans (hz j)
  have hl14 := (hE11 a ha).1
  have hk15 := ((hE11 a ha).2.1).trans hk
  refine a_putR C K10 hl14 hk15 f_8_9 p_8_0 hin rfl rfl rfl dX8_init_9 (fun R16 hR17 => ?_)
  have md18 := md12.putR ha hR17
  have fa19 : Fa L2 κ3 ln4 R16 ow8 I6 a 0 15 7 := Fa.new hR17 hq9.2.1 hq9.2.2.2.1 (fun _ => ⟨hq9.2.2.2.2.1, hq9.2.2.2.2.2.1⟩)
  refine g_aload_n C 0 dX8_init_12 rfl rfl ?_
  refine g_bipush C (v := 7) dX8_init_13 (by decide) ?_
  refine a_newI (ow := ow8) C K10 hA (a, 1) 7 (by decide) (by decide) (by decide) ar_int ⟨Nat.le_of_ble_eq_true rfl, Nat.le_of_ble_eq_true rfl⟩ dX8_init_15 (fun q20 L21 κ22 ln23 R24 I25 J26 ow27 hq28 K29 => ?_)
  have hE30 := hq28.2.2.2.2.2.2.2.2
  have md31 := md18.ex hE30 (hq28.gd (by decide))
  have fa32 := fa19.ex hl14 hE30
  have z33 : ∀ j, I25 a j = 0 := fun j => ((hE30 a hl14).2.2.2.2.1 j).trans (z13 j)
  have hl34 := (hE30 a hl14).1
  have hk35 := ((hE30 a hl14).2.1).trans hk15
  have hl36 := (hE30 q1 hq9.2.1).1
  have hk37 := ((hE30 q1 hq9.2.1).2.1).trans hq9.2.2.2.1
  refine a_putR C K29 hl34 hk35 f_8_15 p_8_1 hin rfl rfl rfl dX8_init_17 (fun R38 hR39 => ?_)
  have md40 := md31.putR ha hR39
  have fa41 := fa32.put hR39 (show 0 ≠ 1 by decide)
  have fa42 : Fa L21 κ22 ln23 R38 ow27 I25 a 1 14 7 := Fa.new hR39 hq28.2.1 hq28.2.2.2.1 (fun _ => ⟨hq28.2.2.2.2.1, hq28.2.2.2.2.2.1⟩)
  refine g_aload_n C 0 dX8_init_20 rfl rfl ?_
  refine g_bipush C (v := 7) dX8_init_21 (by decide) ?_
  refine a_newI (ow := ow27) C K29 hA (a, 2) 7 (by decide) (by decide) (by decide) ar_int ⟨Nat.le_of_ble_eq_true rfl, Nat.le_of_ble_eq_true rfl⟩ dX8_init_23 (fun q43 L44 κ45 ln46 R47 I48 J49 ow50 hq51 K52 => ?_)
  have hE53 := hq51.2.2.2.2.2.2.2.2
  have md54 := md40.ex hE53 (hq51.gd (by decide))
  have fa55 := fa41.ex hl34 hE53
  have fa56 := fa42.ex hl34 hE53
  have z57 : ∀ j, I48 a j = 0 := fun j => ((hE53 a hl34).2.2.2.2.1 j).trans (z33 j)
  have hl58 := (hE53 a hl34).1
  have hk59 := ((hE53 a hl34).2.1).trans hk35
  have hl60 := (hE53 q1 hl36).1
  have hk61 := ((hE53 q1 hl36).2.1).trans hk37
  have hl62 := (hE53 q20 hq28.2.1).1
  have hk63 := ((hE53 q20 hq28.2.1).2.1).trans hq28.2.2.2.1
  refine a_putR C K52 hl58 hk59 f_8_19 p_8_2 hin rfl rfl rfl dX8_init_25 (fun R64 hR65 => ?_)
  have md66 := md54.putR ha hR65
  have fa67 := fa55.put hR65 (show 0 ≠ 2 by decide)
  have fa68 := fa56.put hR65 (show 1 ≠ 2 by decide)
  have fa69 : Fa L44 κ45 ln46 R64 ow50 I48 a 2 14 7 := Fa.new hR65 hq51.2.1 hq51.2.2.2.1 (fun _ => ⟨hq51.2.2.2.2.1, hq51.2.2.2.2.2.1⟩)
  refine g_aload_n C 0 dX8_init_28 rfl rfl ?_
  refine g_bipush C (v := 6) dX8_init_29 (by decide) ?_
  refine a_newJ (ow := ow50) C K52 hA (a, 3) 6 (by decide) (by decide) (by decide) ar_long ⟨Nat.le_of_ble_eq_true rfl, Nat.le_of_ble_eq_true rfl⟩ dX8_init_31 (fun q70 L71 κ72 ln73 R74 I75 J76 ow77 hq78 K79 => ?_)
  have hE80 := hq78.2.2.2.2.2.2.2.2
  have md81 := md66.ex hE80 (hq78.gd (by decide))
  have fa82 := fa67.ex hl58 hE80
  have fa83 := fa68.ex hl58 hE80
  have fa84 := fa69.ex hl58 hE80
  have z85 : ∀ j, I75 a j = 0 := fun j => ((hE80 a hl58).2.2.2.2.1 j).trans (z57 j)
  have hl86 := (hE80 a hl58).1
  have hk87 := ((hE80 a hl58).2.1).trans hk59
  have hl88 := (hE80 q1 hl60).1
  have hk89 := ((hE80 q1 hl60).2.1).trans hk61
  have hl90 := (hE80 q20 hl62).1
  have hk91 := ((hE80 q20 hl62).2.1).trans hk63
  have hl92 := (hE80 q43 hq51.2.1).1
  have hk93 := ((hE80 q43 hq51.2.1).2.1).trans hq51.2.2.2.1
  refine a_putR C K79 hl86 hk87 f_8_22 p_8_3 hin rfl rfl rfl dX8_init_33 (fun R94 hR95 => ?_)
  have md96 := md81.putR ha hR95
  have fa97 := fa82.put hR95 (show 0 ≠ 3 by decide)
  have fa98 := fa83.put hR95 (show 1 ≠ 3 by decide)
  have fa99 := fa84.put hR95 (show 2 ≠ 3 by decide)
  have fa100 : Fa L71 κ72 ln73 R94 ow77 I75 a 3 15 6 := Fa.new hR95 hq78.2.1 hq78.2.2.2.1 (fun _ => ⟨hq78.2.2.2.2.1, hq78.2.2.2.2.2.1⟩)
  refine g_aload_n C 0 dX8_init_36 rfl rfl ?_
  refine g_bipush C (v := 6) dX8_init_37 (by decide) ?_
  refine a_newI (ow := ow77) C K79 hA (a, 4) 6 (by decide) (by decide) (by decide) ar_int ⟨Nat.le_of_ble_eq_true rfl, Nat.le_of_ble_eq_true rfl⟩ dX8_init_39 (fun q101 L102 κ103 ln104 R105 I106 J107 ow108 hq109 K110 => ?_)
  have hE111 := hq109.2.2.2.2.2.2.2.2
  have md112 := md96.ex hE111 (hq109.gd (by decide))
  have fa113 := fa97.ex hl86 hE111
  have fa114 := fa98.ex hl86 hE111
  have fa115 := fa99.ex hl86 hE111
  have fa116 := fa100.ex hl86 hE111
  have z117 : ∀ j, I106 a j = 0 := fun j => ((hE111 a hl86).2.2.2.2.1 j).trans (z85 j)
  have hl118 := (hE111 a hl86).1
  have hk119 := ((hE111 a hl86).2.1).trans hk87
  have hl120 := (hE111 q1 hl88).1
  have hk121 := ((hE111 q1 hl88).2.1).trans hk89
  have hl122 := (hE111 q20 hl90).1
  have hk123 := ((hE111 q20 hl90).2.1).trans hk91
  have hl124 := (hE111 q43 hl92).1
  have hk125 := ((hE111 q43 hl92).2.1).trans hk93
  have hl126 := (hE111 q70 hq78.2.1).1
  have hk127 := ((hE111 q70 hq78.2.1).2.1).trans hq78.2.2.2.1
  refine a_putR C K110 hl118 hk119 f_8_25 p_8_4 hin rfl rfl rfl dX8_init_41 (fun R128 hR129 => ?_)
  have md130 := md112.putR ha hR129
  have fa131 := fa113.put hR129 (show 0 ≠ 4 by decide)
  have fa132 := fa114.put hR129 (show 1 ≠ 4 by decide)
  have fa133 := fa115.put hR129 (show 2 ≠ 4 by decide)
  have fa134 := fa116.put hR129 (show 3 ≠ 4 by decide)
  have fa135 : Fa L102 κ103 ln104 R128 ow108 I106 a 4 14 6 := Fa.new hR129 hq109.2.1 hq109.2.2.2.1 (fun _ => ⟨hq109.2.2.2.2.1, hq109.2.2.2.2.2.1⟩)
  refine g_aload_n C 0 dX8_init_44 rfl rfl ?_
  refine g_iconst C (v := 0) dX8_init_45 (by decide) ?_
  refine h_putI C K110 hl118 hk119 f_8_28 p_8_5 dX8_init_46 (fun I136 hI137 => ?_)
  have md138 := md130.putI ha hI137
  have z139 : ∀ j, I136 a j = 0 := fun j => by rw [hI137]; by_cases h : j = 5 <;> simp [u2_, h, z117]
  have fa140 := fa131.putI (I3 := I136)
  have fa141 := fa132.putI (I3 := I136)
  have fa142 := fa133.putI (I3 := I136)
  have fa143 := fa134.putI (I3 := I136)
  have fa144 := fa135.putI (I3 := I136)
  refine g_aload_n C 0 dX8_init_49 rfl rfl ?_
  refine g_iconst C (v := 0) dX8_init_50 (by decide) ?_
  refine h_putI C K110 hl118 hk119 f_8_32 p_8_6 dX8_init_51 (fun I145 hI146 => ?_)
  have md147 := md138.putI ha hI146
  have z148 : ∀ j, I145 a j = 0 := fun j => by rw [hI146]; by_cases h : j = 6 <;> simp [u2_, h, z139]
  have fa149 := fa140.putI (I3 := I145)
  have fa150 := fa141.putI (I3 := I145)
  have fa151 := fa142.putI (I3 := I145)
  have fa152 := fa143.putI (I3 := I145)
  have fa153 := fa144.putI (I3 := I145)
  refine g_aload_n C 0 dX8_init_54 rfl rfl ?_
  refine g_iconst C (v := 0) dX8_init_55 (by decide) ?_
  refine h_putI C K110 hl118 hk119 f_8_35 p_8_7 dX8_init_56 (fun I154 hI155 => ?_)
  have md156 := md147.putI ha hI155
  have z157 : ∀ j, I154 a j = 0 := fun j => by rw [hI155]; by_cases h : j = 7 <;> simp [u2_, h, z148]
  have fa158 := fa149.putI (I3 := I154)
  have fa159 := fa150.putI (I3 := I154)
  have fa160 := fa151.putI (I3 := I154)
  have fa161 := fa152.putI (I3 := I154)
  have fa162 := fa153.putI (I3 := I154)
  refine g_aload_n C 0 dX8_init_59 rfl rfl ?_
  refine g_iconst C (v := 0) dX8_init_60 (by decide) ?_
  refine h_putI C K110 hl118 hk119 f_8_38 p_8_8 dX8_init_61 (fun I163 hI164 => ?_)
  have md165 := md156.putI ha hI164
  have z166 : ∀ j, I163 a j = 0 := fun j => by rw [hI164]; by_cases h : j = 8 <;> simp [u2_, h, z157]
  have fa167 := fa158.putI (I3 := I163)
  have fa168 := fa159.putI (I3 := I163)
  have fa169 := fa160.putI (I3 := I163)
  have fa170 := fa161.putI (I3 := I163)
  have fa171 := fa162.putI (I3 := I163)
  refine a_wide (k := 5) (n := 33) (Nat.le_of_ble_eq_true rfl) (Nat.le_of_ble_eq_true rfl) ?_
  refine a_vret B K110 ⟨ow108, md165, ⟨fun k q hq h9 => ?_, fun h => absurd (hk119.symm.trans h) (by decide), fun h => absurd (hk119.symm.trans h) (by decide)⟩, fun j => ?_, fun h => absurd (hk119.symm.trans h) (by decide), fun k2 h2 => absurd h2 (by rw [hk119]; unfold own_; omega)⟩ dX8_init_64
  · rw [hk119] at hq
    match k, hq with
    | 0, hq => obtain rfl := Option.some.inj (show some (15, 7) = some q from hq); exact fa167
    | 1, hq => obtain rfl := Option.some.inj (show some (14, 7) = some q from hq); exact fa168
    | 2, hq => obtain rfl := Option.some.inj (show some (14, 7) = some q from hq); exact fa169
    | 3, hq => obtain rfl := Option.some.inj (show some (15, 6) = some q from hq); exact fa170
    | 4, hq => obtain rfl := Option.some.inj (show some (14, 6) = some q from hq); exact fa171
    | k + 5, hq => exact absurd hq (by simp [rt_])
  · rw [z166 j, hk119]; simp [fv_]
set_option maxRecDepth 100000 in
set_option maxHeartbeats 4000000 in
theorem i_0 {l : Launch} {D : va_G} {cy : Nat → ClassId} {L : List Nat} {κ ln : Nat → Nat} {R : Nat → Nat → Option Nat} {I : Nat → Nat → Int32} {J : Nat → Nat → Int64} {ow : Nat → Nat × Nat} {a : Nat} (ha : a ∈ L) (hk : κ a = 0) (hz : ∀ j, I a j = 0) : CtN l yX0_init cX0_init 1 { frames := 1, cells := 4, slots := 160, locals := 60 } 4 160 D cy L κ ln R I J En_ [.ref a] (Pi_ a L κ ln R ow I J) := by
  refine CtN.of (by decide +kernel) (Nat.le_of_ble_eq_true rfl) ?_
  intro p e s m below meth c B K hN
  have C := B.1
  have hin : meth.name = "<init>" := B.2.2.2
  have hA : ∀ q, s.heap.size ≤ q → AN_ L s.heap.size q := fun q h => Or.inr h
  refine g_lo (is := [0]) (lo2 := [(0, .ref a)]) rfl ?_
  refine g_aload_n C 0 dX0_init_0 rfl rfl ?_
  refine a_obj C oi_0_3 (Nat.le_of_ble_eq_true rfl) (Nat.le_of_ble_eq_true rfl) dX0_init_1 ?_
  refine g_aload_n C 0 dX0_init_4 rfl rfl ?_
  refine g_bipush C (v := 40) dX0_init_5 (by decide) ?_
  refine a_newI (ow := ow) C K hA (a, 0) 40 (by decide) (by decide) (by decide) ar_int ⟨Nat.le_of_ble_eq_true rfl, Nat.le_of_ble_eq_true rfl⟩ dX0_init_7 (fun q1 L2 κ3 ln4 R5 I6 J7 ow8 hq9 K10 => ?_)
  have hE11 := hq9.2.2.2.2.2.2.2.2
  have md12 := (Md.rf : Md a L κ ln R ow I J L κ ln R ow I J).ex hE11 (hq9.gd (by decide))
  have z13 : ∀ j, I6 a j = 0 := fun j => ((hE11 a ha).2.2.2.2.1 j).trans (hz j)
  have hl14 := (hE11 a ha).1
  have hk15 := ((hE11 a ha).2.1).trans hk
  refine a_putR C K10 hl14 hk15 f_0_11 p_0_0 hin rfl rfl rfl dX0_init_9 (fun R16 hR17 => ?_)
  have md18 := md12.putR ha hR17
  have fa19 : Fa L2 κ3 ln4 R16 ow8 I6 a 0 14 40 := Fa.new hR17 hq9.2.1 hq9.2.2.2.1 (fun _ => ⟨hq9.2.2.2.2.1, hq9.2.2.2.2.2.1⟩)
  refine g_aload_n C 0 dX0_init_12 rfl rfl ?_
  refine g_bipush C (v := 40) dX0_init_13 (by decide) ?_
  refine a_newI (ow := ow8) C K10 hA (a, 1) 40 (by decide) (by decide) (by decide) ar_int ⟨Nat.le_of_ble_eq_true rfl, Nat.le_of_ble_eq_true rfl⟩ dX0_init_15 (fun q20 L21 κ22 ln23 R24 I25 J26 ow27 hq28 K29 => ?_)
  have hE30 := hq28.2.2.2.2.2.2.2.2
  have md31 := md18.ex hE30 (hq28.gd (by decide))
  have fa32 := fa19.ex hl14 hE30
  have z33 : ∀ j, I25 a j = 0 := fun j => ((hE30 a hl14).2.2.2.2.1 j).trans (z13 j)
  have hl34 := (hE30 a hl14).1
  have hk35 := ((hE30 a hl14).2.1).trans hk15
  have hl36 := (hE30 q1 hq9.2.1).1
  have hk37 := ((hE30 q1 hq9.2.1).2.1).trans hq9.2.2.2.1
  refine a_putR C K29 hl34 hk35 f_0_15 p_0_1 hin rfl rfl rfl dX0_init_17 (fun R38 hR39 => ?_)
  have md40 := md31.putR ha hR39
  have fa41 := fa32.put hR39 (show 0 ≠ 1 by decide)
  have fa42 : Fa L21 κ22 ln23 R38 ow27 I25 a 1 14 40 := Fa.new hR39 hq28.2.1 hq28.2.2.2.1 (fun _ => ⟨hq28.2.2.2.2.1, hq28.2.2.2.2.2.1⟩)
  refine g_aload_n C 0 dX0_init_20 rfl rfl ?_
  refine g_bipush C (v := 40) dX0_init_21 (by decide) ?_
  refine a_newI (ow := ow27) C K29 hA (a, 2) 40 (by decide) (by decide) (by decide) ar_int ⟨Nat.le_of_ble_eq_true rfl, Nat.le_of_ble_eq_true rfl⟩ dX0_init_23 (fun q43 L44 κ45 ln46 R47 I48 J49 ow50 hq51 K52 => ?_)
  have hE53 := hq51.2.2.2.2.2.2.2.2
  have md54 := md40.ex hE53 (hq51.gd (by decide))
  have fa55 := fa41.ex hl34 hE53
  have fa56 := fa42.ex hl34 hE53
  have z57 : ∀ j, I48 a j = 0 := fun j => ((hE53 a hl34).2.2.2.2.1 j).trans (z33 j)
  have hl58 := (hE53 a hl34).1
  have hk59 := ((hE53 a hl34).2.1).trans hk35
  have hl60 := (hE53 q1 hl36).1
  have hk61 := ((hE53 q1 hl36).2.1).trans hk37
  have hl62 := (hE53 q20 hq28.2.1).1
  have hk63 := ((hE53 q20 hq28.2.1).2.1).trans hq28.2.2.2.1
  refine a_putR C K52 hl58 hk59 f_0_18 p_0_2 hin rfl rfl rfl dX0_init_25 (fun R64 hR65 => ?_)
  have md66 := md54.putR ha hR65
  have fa67 := fa55.put hR65 (show 0 ≠ 2 by decide)
  have fa68 := fa56.put hR65 (show 1 ≠ 2 by decide)
  have fa69 : Fa L44 κ45 ln46 R64 ow50 I48 a 2 14 40 := Fa.new hR65 hq51.2.1 hq51.2.2.2.1 (fun _ => ⟨hq51.2.2.2.2.1, hq51.2.2.2.2.2.1⟩)
  refine g_aload_n C 0 dX0_init_28 rfl rfl ?_
  refine g_bipush C (v := 40) dX0_init_29 (by decide) ?_
  refine a_newI (ow := ow50) C K52 hA (a, 3) 40 (by decide) (by decide) (by decide) ar_int ⟨Nat.le_of_ble_eq_true rfl, Nat.le_of_ble_eq_true rfl⟩ dX0_init_31 (fun q70 L71 κ72 ln73 R74 I75 J76 ow77 hq78 K79 => ?_)
  have hE80 := hq78.2.2.2.2.2.2.2.2
  have md81 := md66.ex hE80 (hq78.gd (by decide))
  have fa82 := fa67.ex hl58 hE80
  have fa83 := fa68.ex hl58 hE80
  have fa84 := fa69.ex hl58 hE80
  have z85 : ∀ j, I75 a j = 0 := fun j => ((hE80 a hl58).2.2.2.2.1 j).trans (z57 j)
  have hl86 := (hE80 a hl58).1
  have hk87 := ((hE80 a hl58).2.1).trans hk59
  have hl88 := (hE80 q1 hl60).1
  have hk89 := ((hE80 q1 hl60).2.1).trans hk61
  have hl90 := (hE80 q20 hl62).1
  have hk91 := ((hE80 q20 hl62).2.1).trans hk63
  have hl92 := (hE80 q43 hq51.2.1).1
  have hk93 := ((hE80 q43 hq51.2.1).2.1).trans hq51.2.2.2.1
  refine a_putR C K79 hl86 hk87 f_0_21 p_0_3 hin rfl rfl rfl dX0_init_33 (fun R94 hR95 => ?_)
  have md96 := md81.putR ha hR95
  have fa97 := fa82.put hR95 (show 0 ≠ 3 by decide)
  have fa98 := fa83.put hR95 (show 1 ≠ 3 by decide)
  have fa99 := fa84.put hR95 (show 2 ≠ 3 by decide)
  have fa100 : Fa L71 κ72 ln73 R94 ow77 I75 a 3 14 40 := Fa.new hR95 hq78.2.1 hq78.2.2.2.1 (fun _ => ⟨hq78.2.2.2.2.1, hq78.2.2.2.2.2.1⟩)
  refine g_aload_n C 0 dX0_init_36 rfl rfl ?_
  refine g_iconst C (v := 0) dX0_init_37 (by decide) ?_
  refine h_putI C K79 hl86 hk87 f_0_24 p_0_4 dX0_init_38 (fun I101 hI102 => ?_)
  have md103 := md96.putI ha hI102
  have z104 : ∀ j, I101 a j = 0 := fun j => by rw [hI102]; by_cases h : j = 4 <;> simp [u2_, h, z85]
  have fa105 := fa97.putI (I3 := I101)
  have fa106 := fa98.putI (I3 := I101)
  have fa107 := fa99.putI (I3 := I101)
  have fa108 := fa100.putI (I3 := I101)
  refine g_aload_n C 0 dX0_init_41 rfl rfl ?_
  refine g_iconst C (v := 0) dX0_init_42 (by decide) ?_
  refine h_putZ C K79 hl86 hk87 f_0_28 p_0_5 (Or.inl rfl) dX0_init_43 (fun I109 hI110 => ?_)
  have md111 := md103.putI ha hI110
  have z112 : ∀ j, I109 a j = 0 := fun j => by rw [hI110]; by_cases h : j = 5 <;> simp [u2_, h, z104]
  have fa113 := fa105.putI (I3 := I109)
  have fa114 := fa106.putI (I3 := I109)
  have fa115 := fa107.putI (I3 := I109)
  have fa116 := fa108.putI (I3 := I109)
  refine g_aload_n C 0 dX0_init_46 rfl rfl ?_
  refine g_iconst C (v := 0) dX0_init_47 (by decide) ?_
  refine h_putI C K79 hl86 hk87 f_0_32 p_0_6 dX0_init_48 (fun I117 hI118 => ?_)
  have md119 := md111.putI ha hI118
  have z120 : ∀ j, I117 a j = 0 := fun j => by rw [hI118]; by_cases h : j = 6 <;> simp [u2_, h, z112]
  have fa121 := fa113.putI (I3 := I117)
  have fa122 := fa114.putI (I3 := I117)
  have fa123 := fa115.putI (I3 := I117)
  have fa124 := fa116.putI (I3 := I117)
  refine g_aload_n C 0 dX0_init_51 rfl rfl ?_
  refine g_iconst C (v := 0) dX0_init_52 (by decide) ?_
  refine h_putI C K79 hl86 hk87 f_0_35 p_0_7 dX0_init_53 (fun I125 hI126 => ?_)
  have md127 := md119.putI ha hI126
  have z128 : ∀ j, I125 a j = 0 := fun j => by rw [hI126]; by_cases h : j = 7 <;> simp [u2_, h, z120]
  have fa129 := fa121.putI (I3 := I125)
  have fa130 := fa122.putI (I3 := I125)
  have fa131 := fa123.putI (I3 := I125)
  have fa132 := fa124.putI (I3 := I125)
  refine g_aload_n C 0 dX0_init_56 rfl rfl ?_
  refine g_iconst C (v := 0) dX0_init_57 (by decide) ?_
  refine h_putI C K79 hl86 hk87 f_0_38 p_0_8 dX0_init_58 (fun I133 hI134 => ?_)
  have md135 := md127.putI ha hI134
  have z136 : ∀ j, I133 a j = 0 := fun j => by rw [hI134]; by_cases h : j = 8 <;> simp [u2_, h, z128]
  have fa137 := fa129.putI (I3 := I133)
  have fa138 := fa130.putI (I3 := I133)
  have fa139 := fa131.putI (I3 := I133)
  have fa140 := fa132.putI (I3 := I133)
  refine g_aload_n C 0 dX0_init_61 rfl rfl ?_
  refine g_iconst C (v := 0) dX0_init_62 (by decide) ?_
  refine h_putI C K79 hl86 hk87 f_0_41 p_0_9 dX0_init_63 (fun I141 hI142 => ?_)
  have md143 := md135.putI ha hI142
  have z144 : ∀ j, I141 a j = 0 := fun j => by rw [hI142]; by_cases h : j = 9 <;> simp [u2_, h, z136]
  have fa145 := fa137.putI (I3 := I141)
  have fa146 := fa138.putI (I3 := I141)
  have fa147 := fa139.putI (I3 := I141)
  have fa148 := fa140.putI (I3 := I141)
  refine a_wide (k := 4) (n := 160) (Nat.le_of_ble_eq_true rfl) (Nat.le_of_ble_eq_true rfl) ?_
  refine a_vret B K79 ⟨ow77, md143, ⟨fun k q hq h9 => ?_, fun h => absurd (hk87.symm.trans h) (by decide), fun h => absurd (hk87.symm.trans h) (by decide)⟩, fun j => ?_, fun h => absurd (hk87.symm.trans h) (by decide), fun k2 h2 => absurd h2 (by rw [hk87]; unfold own_; omega)⟩ dX0_init_66
  · rw [hk87] at hq
    match k, hq with
    | 0, hq => obtain rfl := Option.some.inj (show some (14, 40) = some q from hq); exact fa145
    | 1, hq => obtain rfl := Option.some.inj (show some (14, 40) = some q from hq); exact fa146
    | 2, hq => obtain rfl := Option.some.inj (show some (14, 40) = some q from hq); exact fa147
    | 3, hq => obtain rfl := Option.some.inj (show some (14, 40) = some q from hq); exact fa148
    | k + 4, hq => exact absurd hq (by simp [rt_])
  · rw [z144 j, hk87]; simp [fv_]
set_option maxRecDepth 100000 in
set_option maxHeartbeats 4000000 in
theorem i_2 {l : Launch} {D : va_G} {cy : Nat → ClassId} {L : List Nat} {κ ln : Nat → Nat} {R : Nat → Nat → Option Nat} {I : Nat → Nat → Int32} {J : Nat → Nat → Int64} {ow : Nat → Nat × Nat} {a : Nat} (ha : a ∈ L) (hk : κ a = 2) (hz : ∀ j, I a j = 0) : CtN l yX2_init cX2_init 1 { frames := 1, cells := 1, slots := 7, locals := 60 } 1 7 D cy L κ ln R I J En_ [.ref a] (Pi_ a L κ ln R ow I J) := by
  refine CtN.of (by decide +kernel) (Nat.le_of_ble_eq_true rfl) ?_
  intro p e s m below meth c B K hN
  have C := B.1
  have hin : meth.name = "<init>" := B.2.2.2
  have hA : ∀ q, s.heap.size ≤ q → AN_ L s.heap.size q := fun q h => Or.inr h
  refine g_lo (is := [0]) (lo2 := [(0, .ref a)]) rfl ?_
  refine g_aload_n C 0 dX2_init_0 rfl rfl ?_
  refine a_obj C oi_2_3 (Nat.le_of_ble_eq_true rfl) (Nat.le_of_ble_eq_true rfl) dX2_init_1 ?_
  refine g_aload_n C 0 dX2_init_4 rfl rfl ?_
  refine g_bipush C (v := 7) dX2_init_5 (by decide) ?_
  refine a_newI (ow := ow) C K hA (a, 0) 7 (by decide) (by decide) (by decide) ar_int ⟨Nat.le_of_ble_eq_true rfl, Nat.le_of_ble_eq_true rfl⟩ dX2_init_7 (fun q1 L2 κ3 ln4 R5 I6 J7 ow8 hq9 K10 => ?_)
  have hE11 := hq9.2.2.2.2.2.2.2.2
  have md12 := (Md.rf : Md a L κ ln R ow I J L κ ln R ow I J).ex hE11 (hq9.gd (by decide))
  have z13 : ∀ j, I6 a j = 0 := fun j => ((hE11 a ha).2.2.2.2.1 j).trans (hz j)
  have hl14 := (hE11 a ha).1
  have hk15 := ((hE11 a ha).2.1).trans hk
  refine a_putR C K10 hl14 hk15 f_2_9 p_2_0 hin rfl rfl rfl dX2_init_9 (fun R16 hR17 => ?_)
  have md18 := md12.putR ha hR17
  have fa19 : Fa L2 κ3 ln4 R16 ow8 I6 a 0 14 7 := Fa.new hR17 hq9.2.1 hq9.2.2.2.1 (fun _ => ⟨hq9.2.2.2.2.1, hq9.2.2.2.2.2.1⟩)
  refine g_aload_n C 0 dX2_init_12 rfl rfl ?_
  refine g_iconst C (v := (-1)) dX2_init_13 (by decide) ?_
  refine h_putI C K10 hl14 hk15 f_2_15 p_2_1 dX2_init_14 (fun I20 hI21 => ?_)
  have md22 := md18.putI ha hI21
  have z23 : ∀ j, I20 a j = (if j = 1 then (-1) else 0) := fun j => by rw [hI21]; by_cases h : j = 1 <;> simp [u2_, h, z13]
  have fa24 := fa19.putI (I3 := I20)
  refine g_aload_n C 0 dX2_init_17 rfl rfl ?_
  refine g_iconst C (v := (-1)) dX2_init_18 (by decide) ?_
  refine h_putI C K10 hl14 hk15 f_2_19 p_2_2 dX2_init_19 (fun I25 hI26 => ?_)
  have md27 := md22.putI ha hI26
  have z28 : ∀ j, I25 a j = (if j = 2 then (-1) else (if j = 1 then (-1) else 0)) := fun j => by rw [hI26]; by_cases h : j = 2 <;> simp [u2_, h, z23]
  have fa29 := fa24.putI (I3 := I25)
  refine a_wide (k := 1) (n := 7) (Nat.le_of_ble_eq_true rfl) (Nat.le_of_ble_eq_true rfl) ?_
  refine a_vret B K10 ⟨ow8, md27, ⟨fun k q hq h9 => ?_, fun h => absurd (hk15.symm.trans h) (by decide), fun h => absurd (hk15.symm.trans h) (by decide)⟩, fun j => ?_, fun h => absurd (hk15.symm.trans h) (by decide), fun k2 h2 => absurd h2 (by rw [hk15]; unfold own_; omega)⟩ dX2_init_22
  · rw [hk15] at hq
    match k, hq with
    | 0, hq => obtain rfl := Option.some.inj (show some (14, 7) = some q from hq); exact fa29
    | k + 1, hq => exact absurd hq (by simp [rt_])
  · rw [z28 j, hk15]; by_cases h1 : j = 1 <;>  by_cases h2 : j = 2 <;> simp_all [fv_]
set_option maxRecDepth 100000 in
set_option maxHeartbeats 4000000 in
theorem i_6 {l : Launch} {D : va_G} {cy : Nat → ClassId} {L : List Nat} {κ ln : Nat → Nat} {R : Nat → Nat → Option Nat} {I : Nat → Nat → Int32} {J : Nat → Nat → Int64} {ow : Nat → Nat × Nat} {a : Nat} (ha : a ∈ L) (hk : κ a = 6) (hz : ∀ j, I a j = 0) : CtN l yX6_init cX6_init 1 { frames := 1, cells := 1, slots := 7, locals := 60 } 1 7 D cy L κ ln R I J En_ [.ref a] (Pi_ a L κ ln R ow I J) := by
  refine CtN.of (by decide +kernel) (Nat.le_of_ble_eq_true rfl) ?_
  intro p e s m below meth c B K hN
  have C := B.1
  have hin : meth.name = "<init>" := B.2.2.2
  have hA : ∀ q, s.heap.size ≤ q → AN_ L s.heap.size q := fun q h => Or.inr h
  refine g_lo (is := [0]) (lo2 := [(0, .ref a)]) rfl ?_
  refine g_aload_n C 0 dX6_init_0 rfl rfl ?_
  refine a_obj C oi_6_3 (Nat.le_of_ble_eq_true rfl) (Nat.le_of_ble_eq_true rfl) dX6_init_1 ?_
  refine g_aload_n C 0 dX6_init_4 rfl rfl ?_
  refine g_bipush C (v := 7) dX6_init_5 (by decide) ?_
  refine a_newI (ow := ow) C K hA (a, 0) 7 (by decide) (by decide) (by decide) ar_int ⟨Nat.le_of_ble_eq_true rfl, Nat.le_of_ble_eq_true rfl⟩ dX6_init_7 (fun q1 L2 κ3 ln4 R5 I6 J7 ow8 hq9 K10 => ?_)
  have hE11 := hq9.2.2.2.2.2.2.2.2
  have md12 := (Md.rf : Md a L κ ln R ow I J L κ ln R ow I J).ex hE11 (hq9.gd (by decide))
  have z13 : ∀ j, I6 a j = 0 := fun j => ((hE11 a ha).2.2.2.2.1 j).trans (hz j)
  have hl14 := (hE11 a ha).1
  have hk15 := ((hE11 a ha).2.1).trans hk
  refine a_putR C K10 hl14 hk15 f_6_9 p_6_0 hin rfl rfl rfl dX6_init_9 (fun R16 hR17 => ?_)
  have md18 := md12.putR ha hR17
  have fa19 : Fa L2 κ3 ln4 R16 ow8 I6 a 0 14 7 := Fa.new hR17 hq9.2.1 hq9.2.2.2.1 (fun _ => ⟨hq9.2.2.2.2.1, hq9.2.2.2.2.2.1⟩)
  refine g_aload_n C 0 dX6_init_12 rfl rfl ?_
  refine g_iconst C (v := 0) dX6_init_13 (by decide) ?_
  refine h_putI C K10 hl14 hk15 f_6_15 p_6_1 dX6_init_14 (fun I20 hI21 => ?_)
  have md22 := md18.putI ha hI21
  have z23 : ∀ j, I20 a j = 0 := fun j => by rw [hI21]; by_cases h : j = 1 <;> simp [u2_, h, z13]
  have fa24 := fa19.putI (I3 := I20)
  refine a_wide (k := 1) (n := 7) (Nat.le_of_ble_eq_true rfl) (Nat.le_of_ble_eq_true rfl) ?_
  refine a_vret B K10 ⟨ow8, md22, ⟨fun k q hq h9 => ?_, fun h => absurd (hk15.symm.trans h) (by decide), fun h => absurd (hk15.symm.trans h) (by decide)⟩, fun j => ?_, fun h => absurd (hk15.symm.trans h) (by decide), fun k2 h2 => absurd h2 (by rw [hk15]; unfold own_; omega)⟩ dX6_init_17
  · rw [hk15] at hq
    match k, hq with
    | 0, hq => obtain rfl := Option.some.inj (show some (14, 7) = some q from hq); exact fa24
    | k + 1, hq => exact absurd hq (by simp [rt_])
  · rw [z23 j, hk15]; simp [fv_]
set_option maxRecDepth 100000 in
set_option maxHeartbeats 4000000 in
theorem i_7 {l : Launch} {D : va_G} {cy : Nat → ClassId} {L : List Nat} {κ ln : Nat → Nat} {R : Nat → Nat → Option Nat} {I : Nat → Nat → Int32} {J : Nat → Nat → Int64} {ow : Nat → Nat × Nat} {a : Nat} (ha : a ∈ L) (hk : κ a = 7) (hz : ∀ j, I a j = 0) : CtN l yX7_init cX7_init 1 { frames := 1, cells := 4, slots := 160, locals := 60 } 4 160 D cy L κ ln R I J En_ [.ref a] (Pi_ a L κ ln R ow I J) := by
  refine CtN.of (by decide +kernel) (Nat.le_of_ble_eq_true rfl) ?_
  intro p e s m below meth c B K hN
  have C := B.1
  have hin : meth.name = "<init>" := B.2.2.2
  have hA : ∀ q, s.heap.size ≤ q → AN_ L s.heap.size q := fun q h => Or.inr h
  refine g_lo (is := [0]) (lo2 := [(0, .ref a)]) rfl ?_
  refine g_aload_n C 0 dX7_init_0 rfl rfl ?_
  refine a_obj C oi_7_5 (Nat.le_of_ble_eq_true rfl) (Nat.le_of_ble_eq_true rfl) dX7_init_1 ?_
  refine g_aload_n C 0 dX7_init_4 rfl rfl ?_
  refine g_bipush C (v := 40) dX7_init_5 (by decide) ?_
  refine a_newI (ow := ow) C K hA (a, 0) 40 (by decide) (by decide) (by decide) ar_int ⟨Nat.le_of_ble_eq_true rfl, Nat.le_of_ble_eq_true rfl⟩ dX7_init_7 (fun q1 L2 κ3 ln4 R5 I6 J7 ow8 hq9 K10 => ?_)
  have hE11 := hq9.2.2.2.2.2.2.2.2
  have md12 := (Md.rf : Md a L κ ln R ow I J L κ ln R ow I J).ex hE11 (hq9.gd (by decide))
  have z13 : ∀ j, I6 a j = 0 := fun j => ((hE11 a ha).2.2.2.2.1 j).trans (hz j)
  have hl14 := (hE11 a ha).1
  have hk15 := ((hE11 a ha).2.1).trans hk
  refine a_putR C K10 hl14 hk15 f_7_11 p_7_0 hin rfl rfl rfl dX7_init_9 (fun R16 hR17 => ?_)
  have md18 := md12.putR ha hR17
  have fa19 : Fa L2 κ3 ln4 R16 ow8 I6 a 0 14 40 := Fa.new hR17 hq9.2.1 hq9.2.2.2.1 (fun _ => ⟨hq9.2.2.2.2.1, hq9.2.2.2.2.2.1⟩)
  refine g_aload_n C 0 dX7_init_12 rfl rfl ?_
  refine g_bipush C (v := 40) dX7_init_13 (by decide) ?_
  refine a_newI (ow := ow8) C K10 hA (a, 1) 40 (by decide) (by decide) (by decide) ar_int ⟨Nat.le_of_ble_eq_true rfl, Nat.le_of_ble_eq_true rfl⟩ dX7_init_15 (fun q20 L21 κ22 ln23 R24 I25 J26 ow27 hq28 K29 => ?_)
  have hE30 := hq28.2.2.2.2.2.2.2.2
  have md31 := md18.ex hE30 (hq28.gd (by decide))
  have fa32 := fa19.ex hl14 hE30
  have z33 : ∀ j, I25 a j = 0 := fun j => ((hE30 a hl14).2.2.2.2.1 j).trans (z13 j)
  have hl34 := (hE30 a hl14).1
  have hk35 := ((hE30 a hl14).2.1).trans hk15
  have hl36 := (hE30 q1 hq9.2.1).1
  have hk37 := ((hE30 q1 hq9.2.1).2.1).trans hq9.2.2.2.1
  refine a_putR C K29 hl34 hk35 f_7_15 p_7_1 hin rfl rfl rfl dX7_init_17 (fun R38 hR39 => ?_)
  have md40 := md31.putR ha hR39
  have fa41 := fa32.put hR39 (show 0 ≠ 1 by decide)
  have fa42 : Fa L21 κ22 ln23 R38 ow27 I25 a 1 14 40 := Fa.new hR39 hq28.2.1 hq28.2.2.2.1 (fun _ => ⟨hq28.2.2.2.2.1, hq28.2.2.2.2.2.1⟩)
  refine g_aload_n C 0 dX7_init_20 rfl rfl ?_
  refine g_bipush C (v := 40) dX7_init_21 (by decide) ?_
  refine a_newI (ow := ow27) C K29 hA (a, 2) 40 (by decide) (by decide) (by decide) ar_int ⟨Nat.le_of_ble_eq_true rfl, Nat.le_of_ble_eq_true rfl⟩ dX7_init_23 (fun q43 L44 κ45 ln46 R47 I48 J49 ow50 hq51 K52 => ?_)
  have hE53 := hq51.2.2.2.2.2.2.2.2
  have md54 := md40.ex hE53 (hq51.gd (by decide))
  have fa55 := fa41.ex hl34 hE53
  have fa56 := fa42.ex hl34 hE53
  have z57 : ∀ j, I48 a j = 0 := fun j => ((hE53 a hl34).2.2.2.2.1 j).trans (z33 j)
  have hl58 := (hE53 a hl34).1
  have hk59 := ((hE53 a hl34).2.1).trans hk35
  have hl60 := (hE53 q1 hl36).1
  have hk61 := ((hE53 q1 hl36).2.1).trans hk37
  have hl62 := (hE53 q20 hq28.2.1).1
  have hk63 := ((hE53 q20 hq28.2.1).2.1).trans hq28.2.2.2.1
  refine a_putR C K52 hl58 hk59 f_7_18 p_7_2 hin rfl rfl rfl dX7_init_25 (fun R64 hR65 => ?_)
  have md66 := md54.putR ha hR65
  have fa67 := fa55.put hR65 (show 0 ≠ 2 by decide)
  have fa68 := fa56.put hR65 (show 1 ≠ 2 by decide)
  have fa69 : Fa L44 κ45 ln46 R64 ow50 I48 a 2 14 40 := Fa.new hR65 hq51.2.1 hq51.2.2.2.1 (fun _ => ⟨hq51.2.2.2.2.1, hq51.2.2.2.2.2.1⟩)
  refine g_aload_n C 0 dX7_init_28 rfl rfl ?_
  refine g_bipush C (v := 40) dX7_init_29 (by decide) ?_
  refine a_newI (ow := ow50) C K52 hA (a, 3) 40 (by decide) (by decide) (by decide) ar_int ⟨Nat.le_of_ble_eq_true rfl, Nat.le_of_ble_eq_true rfl⟩ dX7_init_31 (fun q70 L71 κ72 ln73 R74 I75 J76 ow77 hq78 K79 => ?_)
  have hE80 := hq78.2.2.2.2.2.2.2.2
  have md81 := md66.ex hE80 (hq78.gd (by decide))
  have fa82 := fa67.ex hl58 hE80
  have fa83 := fa68.ex hl58 hE80
  have fa84 := fa69.ex hl58 hE80
  have z85 : ∀ j, I75 a j = 0 := fun j => ((hE80 a hl58).2.2.2.2.1 j).trans (z57 j)
  have hl86 := (hE80 a hl58).1
  have hk87 := ((hE80 a hl58).2.1).trans hk59
  have hl88 := (hE80 q1 hl60).1
  have hk89 := ((hE80 q1 hl60).2.1).trans hk61
  have hl90 := (hE80 q20 hl62).1
  have hk91 := ((hE80 q20 hl62).2.1).trans hk63
  have hl92 := (hE80 q43 hq51.2.1).1
  have hk93 := ((hE80 q43 hq51.2.1).2.1).trans hq51.2.2.2.1
  refine a_putR C K79 hl86 hk87 f_7_21 p_7_3 hin rfl rfl rfl dX7_init_33 (fun R94 hR95 => ?_)
  have md96 := md81.putR ha hR95
  have fa97 := fa82.put hR95 (show 0 ≠ 3 by decide)
  have fa98 := fa83.put hR95 (show 1 ≠ 3 by decide)
  have fa99 := fa84.put hR95 (show 2 ≠ 3 by decide)
  have fa100 : Fa L71 κ72 ln73 R94 ow77 I75 a 3 14 40 := Fa.new hR95 hq78.2.1 hq78.2.2.2.1 (fun _ => ⟨hq78.2.2.2.2.1, hq78.2.2.2.2.2.1⟩)
  refine g_aload_n C 0 dX7_init_36 rfl rfl ?_
  refine g_iconst C (v := 0) dX7_init_37 (by decide) ?_
  refine h_putI C K79 hl86 hk87 f_7_24 p_7_4 dX7_init_38 (fun I101 hI102 => ?_)
  have md103 := md96.putI ha hI102
  have z104 : ∀ j, I101 a j = 0 := fun j => by rw [hI102]; by_cases h : j = 4 <;> simp [u2_, h, z85]
  have fa105 := fa97.putI (I3 := I101)
  have fa106 := fa98.putI (I3 := I101)
  have fa107 := fa99.putI (I3 := I101)
  have fa108 := fa100.putI (I3 := I101)
  refine g_aload_n C 0 dX7_init_41 rfl rfl ?_
  refine g_iconst C (v := 0) dX7_init_42 (by decide) ?_
  refine h_putI C K79 hl86 hk87 f_7_28 p_7_5 dX7_init_43 (fun I109 hI110 => ?_)
  have md111 := md103.putI ha hI110
  have z112 : ∀ j, I109 a j = 0 := fun j => by rw [hI110]; by_cases h : j = 5 <;> simp [u2_, h, z104]
  have fa113 := fa105.putI (I3 := I109)
  have fa114 := fa106.putI (I3 := I109)
  have fa115 := fa107.putI (I3 := I109)
  have fa116 := fa108.putI (I3 := I109)
  refine a_wide (k := 4) (n := 160) (Nat.le_of_ble_eq_true rfl) (Nat.le_of_ble_eq_true rfl) ?_
  refine a_vret B K79 ⟨ow77, md111, ⟨fun k q hq h9 => ?_, fun h => absurd (hk87.symm.trans h) (by decide), fun h => absurd (hk87.symm.trans h) (by decide)⟩, fun j => ?_, fun h => absurd (hk87.symm.trans h) (by decide), fun k2 h2 => absurd h2 (by rw [hk87]; unfold own_; omega)⟩ dX7_init_46
  · rw [hk87] at hq
    match k, hq with
    | 0, hq => obtain rfl := Option.some.inj (show some (14, 40) = some q from hq); exact fa113
    | 1, hq => obtain rfl := Option.some.inj (show some (14, 40) = some q from hq); exact fa114
    | 2, hq => obtain rfl := Option.some.inj (show some (14, 40) = some q from hq); exact fa115
    | 3, hq => obtain rfl := Option.some.inj (show some (14, 40) = some q from hq); exact fa116
    | k + 4, hq => exact absurd hq (by simp [rt_])
  · rw [z112 j, hk87]; simp [fv_]
set_option maxRecDepth 100000 in
set_option maxHeartbeats 4000000 in
theorem i_12 {l : Launch} {D : va_G} {cy : Nat → ClassId} {L : List Nat} {κ ln : Nat → Nat} {R : Nat → Nat → Option Nat} {I : Nat → Nat → Int32} {J : Nat → Nat → Int64} {ow : Nat → Nat × Nat} {a : Nat} (ha : a ∈ L) (hk : κ a = 12) (hz : ∀ j, I a j = 0) : CtN l yX12_init cX12_init 1 { frames := 1, cells := 21, slots := 4436, locals := 60 } 21 4436 D cy L κ ln R I J En_ [.ref a] (Pi_ a L κ ln R ow I J) := by
  refine CtN.of (by decide +kernel) (Nat.le_of_ble_eq_true rfl) ?_
  intro p e s m below meth c B K hN
  have C := B.1
  have hin : meth.name = "<init>" := B.2.2.2
  have hA : ∀ q, s.heap.size ≤ q → AN_ L s.heap.size q := fun q h => Or.inr h
  refine g_lo (is := [0]) (lo2 := [(0, .ref a)]) rfl ?_
  refine g_aload_n C 0 dX12_init_0 rfl rfl ?_
  refine a_obj C oi_12_1 (Nat.le_of_ble_eq_true rfl) (Nat.le_of_ble_eq_true rfl) dX12_init_1 ?_
  refine g_aload_n C 0 dX12_init_4 rfl rfl ?_
  refine g_sipush C (v := 940) dX12_init_5 (by decide) ?_
  refine a_newI (ow := ow) C K hA (a, 1) 940 (by decide) (by decide) (by decide) ar_int ⟨Nat.le_of_ble_eq_true rfl, Nat.le_of_ble_eq_true rfl⟩ dX12_init_8 (fun q1 L2 κ3 ln4 R5 I6 J7 ow8 hq9 K10 => ?_)
  have hE11 := hq9.2.2.2.2.2.2.2.2
  have md12 := (Md.rf : Md a L κ ln R ow I J L κ ln R ow I J).ex hE11 (hq9.gd (by decide))
  have z13 : ∀ j, I6 a j = 0 := fun j => ((hE11 a ha).2.2.2.2.1 j).trans (hz j)
  have hl14 := (hE11 a ha).1
  have hk15 := ((hE11 a ha).2.1).trans hk
  refine a_putR C K10 hl14 hk15 f_12_7 p_12_1 hin rfl rfl rfl dX12_init_10 (fun R16 hR17 => ?_)
  have md18 := md12.putR ha hR17
  have fa19 : Fa L2 κ3 ln4 R16 ow8 I6 a 1 14 940 := Fa.new hR17 hq9.2.1 hq9.2.2.2.1 (fun _ => ⟨hq9.2.2.2.2.1, hq9.2.2.2.2.2.1⟩)
  refine g_aload_n C 0 dX12_init_13 rfl rfl ?_
  refine g_sipush C (v := 389) dX12_init_14 (by decide) ?_
  refine a_newI (ow := ow8) C K10 hA (a, 14) 389 (by decide) (by decide) (by decide) ar_int ⟨Nat.le_of_ble_eq_true rfl, Nat.le_of_ble_eq_true rfl⟩ dX12_init_17 (fun q20 L21 κ22 ln23 R24 I25 J26 ow27 hq28 K29 => ?_)
  have hE30 := hq28.2.2.2.2.2.2.2.2
  have md31 := md18.ex hE30 (hq28.gd (by decide))
  have fa32 := fa19.ex hl14 hE30
  have z33 : ∀ j, I25 a j = 0 := fun j => ((hE30 a hl14).2.2.2.2.1 j).trans (z13 j)
  have hl34 := (hE30 a hl14).1
  have hk35 := ((hE30 a hl14).2.1).trans hk15
  have hl36 := (hE30 q1 hq9.2.1).1
  have hk37 := ((hE30 q1 hq9.2.1).2.1).trans hq9.2.2.2.1
  refine a_putR C K29 hl34 hk35 f_12_13 p_12_14 hin rfl rfl rfl dX12_init_19 (fun R38 hR39 => ?_)
  have md40 := md31.putR ha hR39
  have fa41 := fa32.put hR39 (show 1 ≠ 14 by decide)
  have fa42 : Fa L21 κ22 ln23 R38 ow27 I25 a 14 14 389 := Fa.new hR39 hq28.2.1 hq28.2.2.2.1 (fun _ => ⟨hq28.2.2.2.2.1, hq28.2.2.2.2.2.1⟩)
  refine g_aload_n C 0 dX12_init_22 rfl rfl ?_
  refine g_bipush C (v := 72) dX12_init_23 (by decide) ?_
  refine a_newI (ow := ow27) C K29 hA (a, 15) 72 (by decide) (by decide) (by decide) ar_int ⟨Nat.le_of_ble_eq_true rfl, Nat.le_of_ble_eq_true rfl⟩ dX12_init_25 (fun q43 L44 κ45 ln46 R47 I48 J49 ow50 hq51 K52 => ?_)
  have hE53 := hq51.2.2.2.2.2.2.2.2
  have md54 := md40.ex hE53 (hq51.gd (by decide))
  have fa55 := fa41.ex hl34 hE53
  have fa56 := fa42.ex hl34 hE53
  have z57 : ∀ j, I48 a j = 0 := fun j => ((hE53 a hl34).2.2.2.2.1 j).trans (z33 j)
  have hl58 := (hE53 a hl34).1
  have hk59 := ((hE53 a hl34).2.1).trans hk35
  have hl60 := (hE53 q1 hl36).1
  have hk61 := ((hE53 q1 hl36).2.1).trans hk37
  have hl62 := (hE53 q20 hq28.2.1).1
  have hk63 := ((hE53 q20 hq28.2.1).2.1).trans hq28.2.2.2.1
  refine a_putR C K52 hl58 hk59 f_12_16 p_12_15 hin rfl rfl rfl dX12_init_27 (fun R64 hR65 => ?_)
  have md66 := md54.putR ha hR65
  have fa67 := fa55.put hR65 (show 1 ≠ 15 by decide)
  have fa68 := fa56.put hR65 (show 14 ≠ 15 by decide)
  have fa69 : Fa L44 κ45 ln46 R64 ow50 I48 a 15 14 72 := Fa.new hR65 hq51.2.1 hq51.2.2.2.1 (fun _ => ⟨hq51.2.2.2.2.1, hq51.2.2.2.2.2.1⟩)
  refine g_aload_n C 0 dX12_init_30 rfl rfl ?_
  refine g_sipush C (v := 778) dX12_init_31 (by decide) ?_
  refine a_newI (ow := ow50) C K52 hA (a, 16) 778 (by decide) (by decide) (by decide) ar_int ⟨Nat.le_of_ble_eq_true rfl, Nat.le_of_ble_eq_true rfl⟩ dX12_init_34 (fun q70 L71 κ72 ln73 R74 I75 J76 ow77 hq78 K79 => ?_)
  have hE80 := hq78.2.2.2.2.2.2.2.2
  have md81 := md66.ex hE80 (hq78.gd (by decide))
  have fa82 := fa67.ex hl58 hE80
  have fa83 := fa68.ex hl58 hE80
  have fa84 := fa69.ex hl58 hE80
  have z85 : ∀ j, I75 a j = 0 := fun j => ((hE80 a hl58).2.2.2.2.1 j).trans (z57 j)
  have hl86 := (hE80 a hl58).1
  have hk87 := ((hE80 a hl58).2.1).trans hk59
  have hl88 := (hE80 q1 hl60).1
  have hk89 := ((hE80 q1 hl60).2.1).trans hk61
  have hl90 := (hE80 q20 hl62).1
  have hk91 := ((hE80 q20 hl62).2.1).trans hk63
  have hl92 := (hE80 q43 hq51.2.1).1
  have hk93 := ((hE80 q43 hq51.2.1).2.1).trans hq51.2.2.2.1
  refine a_putR C K79 hl86 hk87 f_12_19 p_12_16 hin rfl rfl rfl dX12_init_36 (fun R94 hR95 => ?_)
  have md96 := md81.putR ha hR95
  have fa97 := fa82.put hR95 (show 1 ≠ 16 by decide)
  have fa98 := fa83.put hR95 (show 14 ≠ 16 by decide)
  have fa99 := fa84.put hR95 (show 15 ≠ 16 by decide)
  have fa100 : Fa L71 κ72 ln73 R94 ow77 I75 a 16 14 778 := Fa.new hR95 hq78.2.1 hq78.2.2.2.1 (fun _ => ⟨hq78.2.2.2.2.1, hq78.2.2.2.2.2.1⟩)
  refine g_aload_n C 0 dX12_init_39 rfl rfl ?_
  refine g_sipush C (v := 600) dX12_init_40 (by decide) ?_
  refine a_newI (ow := ow77) C K79 hA (a, 17) 600 (by decide) (by decide) (by decide) ar_int ⟨Nat.le_of_ble_eq_true rfl, Nat.le_of_ble_eq_true rfl⟩ dX12_init_43 (fun q101 L102 κ103 ln104 R105 I106 J107 ow108 hq109 K110 => ?_)
  have hE111 := hq109.2.2.2.2.2.2.2.2
  have md112 := md96.ex hE111 (hq109.gd (by decide))
  have fa113 := fa97.ex hl86 hE111
  have fa114 := fa98.ex hl86 hE111
  have fa115 := fa99.ex hl86 hE111
  have fa116 := fa100.ex hl86 hE111
  have z117 : ∀ j, I106 a j = 0 := fun j => ((hE111 a hl86).2.2.2.2.1 j).trans (z85 j)
  have hl118 := (hE111 a hl86).1
  have hk119 := ((hE111 a hl86).2.1).trans hk87
  have hl120 := (hE111 q1 hl88).1
  have hk121 := ((hE111 q1 hl88).2.1).trans hk89
  have hl122 := (hE111 q20 hl90).1
  have hk123 := ((hE111 q20 hl90).2.1).trans hk91
  have hl124 := (hE111 q43 hl92).1
  have hk125 := ((hE111 q43 hl92).2.1).trans hk93
  have hl126 := (hE111 q70 hq78.2.1).1
  have hk127 := ((hE111 q70 hq78.2.1).2.1).trans hq78.2.2.2.1
  refine a_putR C K110 hl118 hk119 f_12_22 p_12_17 hin rfl rfl rfl dX12_init_45 (fun R128 hR129 => ?_)
  have md130 := md112.putR ha hR129
  have fa131 := fa113.put hR129 (show 1 ≠ 17 by decide)
  have fa132 := fa114.put hR129 (show 14 ≠ 17 by decide)
  have fa133 := fa115.put hR129 (show 15 ≠ 17 by decide)
  have fa134 := fa116.put hR129 (show 16 ≠ 17 by decide)
  have fa135 : Fa L102 κ103 ln104 R128 ow108 I106 a 17 14 600 := Fa.new hR129 hq109.2.1 hq109.2.2.2.1 (fun _ => ⟨hq109.2.2.2.2.1, hq109.2.2.2.2.2.1⟩)
  refine g_aload_n C 0 dX12_init_48 rfl rfl ?_
  refine g_bipush C (v := 75) dX12_init_49 (by decide) ?_
  refine a_newI (ow := ow108) C K110 hA (a, 18) 75 (by decide) (by decide) (by decide) ar_int ⟨Nat.le_of_ble_eq_true rfl, Nat.le_of_ble_eq_true rfl⟩ dX12_init_51 (fun q136 L137 κ138 ln139 R140 I141 J142 ow143 hq144 K145 => ?_)
  have hE146 := hq144.2.2.2.2.2.2.2.2
  have md147 := md130.ex hE146 (hq144.gd (by decide))
  have fa148 := fa131.ex hl118 hE146
  have fa149 := fa132.ex hl118 hE146
  have fa150 := fa133.ex hl118 hE146
  have fa151 := fa134.ex hl118 hE146
  have fa152 := fa135.ex hl118 hE146
  have z153 : ∀ j, I141 a j = 0 := fun j => ((hE146 a hl118).2.2.2.2.1 j).trans (z117 j)
  have hl154 := (hE146 a hl118).1
  have hk155 := ((hE146 a hl118).2.1).trans hk119
  have hl156 := (hE146 q1 hl120).1
  have hk157 := ((hE146 q1 hl120).2.1).trans hk121
  have hl158 := (hE146 q20 hl122).1
  have hk159 := ((hE146 q20 hl122).2.1).trans hk123
  have hl160 := (hE146 q43 hl124).1
  have hk161 := ((hE146 q43 hl124).2.1).trans hk125
  have hl162 := (hE146 q70 hl126).1
  have hk163 := ((hE146 q70 hl126).2.1).trans hk127
  have hl164 := (hE146 q101 hq109.2.1).1
  have hk165 := ((hE146 q101 hq109.2.1).2.1).trans hq109.2.2.2.1
  refine a_putR C K145 hl154 hk155 f_12_25 p_12_18 hin rfl rfl rfl dX12_init_53 (fun R166 hR167 => ?_)
  have md168 := md147.putR ha hR167
  have fa169 := fa148.put hR167 (show 1 ≠ 18 by decide)
  have fa170 := fa149.put hR167 (show 14 ≠ 18 by decide)
  have fa171 := fa150.put hR167 (show 15 ≠ 18 by decide)
  have fa172 := fa151.put hR167 (show 16 ≠ 18 by decide)
  have fa173 := fa152.put hR167 (show 17 ≠ 18 by decide)
  have fa174 : Fa L137 κ138 ln139 R166 ow143 I141 a 18 14 75 := Fa.new hR167 hq144.2.1 hq144.2.2.2.1 (fun _ => ⟨hq144.2.2.2.2.1, hq144.2.2.2.2.2.1⟩)
  refine g_aload_n C 0 dX12_init_56 rfl rfl ?_
  refine g_bipush C (v := 13) dX12_init_57 (by decide) ?_
  refine a_newJ (ow := ow143) C K145 hA (a, 19) 13 (by decide) (by decide) (by decide) ar_long ⟨Nat.le_of_ble_eq_true rfl, Nat.le_of_ble_eq_true rfl⟩ dX12_init_59 (fun q175 L176 κ177 ln178 R179 I180 J181 ow182 hq183 K184 => ?_)
  have hE185 := hq183.2.2.2.2.2.2.2.2
  have md186 := md168.ex hE185 (hq183.gd (by decide))
  have fa187 := fa169.ex hl154 hE185
  have fa188 := fa170.ex hl154 hE185
  have fa189 := fa171.ex hl154 hE185
  have fa190 := fa172.ex hl154 hE185
  have fa191 := fa173.ex hl154 hE185
  have fa192 := fa174.ex hl154 hE185
  have z193 : ∀ j, I180 a j = 0 := fun j => ((hE185 a hl154).2.2.2.2.1 j).trans (z153 j)
  have hl194 := (hE185 a hl154).1
  have hk195 := ((hE185 a hl154).2.1).trans hk155
  have hl196 := (hE185 q1 hl156).1
  have hk197 := ((hE185 q1 hl156).2.1).trans hk157
  have hl198 := (hE185 q20 hl158).1
  have hk199 := ((hE185 q20 hl158).2.1).trans hk159
  have hl200 := (hE185 q43 hl160).1
  have hk201 := ((hE185 q43 hl160).2.1).trans hk161
  have hl202 := (hE185 q70 hl162).1
  have hk203 := ((hE185 q70 hl162).2.1).trans hk163
  have hl204 := (hE185 q101 hl164).1
  have hk205 := ((hE185 q101 hl164).2.1).trans hk165
  have hl206 := (hE185 q136 hq144.2.1).1
  have hk207 := ((hE185 q136 hq144.2.1).2.1).trans hq144.2.2.2.1
  refine a_putR C K184 hl194 hk195 f_12_28 p_12_19 hin rfl rfl rfl dX12_init_61 (fun R208 hR209 => ?_)
  have md210 := md186.putR ha hR209
  have fa211 := fa187.put hR209 (show 1 ≠ 19 by decide)
  have fa212 := fa188.put hR209 (show 14 ≠ 19 by decide)
  have fa213 := fa189.put hR209 (show 15 ≠ 19 by decide)
  have fa214 := fa190.put hR209 (show 16 ≠ 19 by decide)
  have fa215 := fa191.put hR209 (show 17 ≠ 19 by decide)
  have fa216 := fa192.put hR209 (show 18 ≠ 19 by decide)
  have fa217 : Fa L176 κ177 ln178 R208 ow182 I180 a 19 15 13 := Fa.new hR209 hq183.2.1 hq183.2.2.2.1 (fun _ => ⟨hq183.2.2.2.2.1, hq183.2.2.2.2.2.1⟩)
  refine g_aload_n C 0 dX12_init_64 rfl rfl ?_
  refine g_bipush C (v := 13) dX12_init_65 (by decide) ?_
  refine a_newJ (ow := ow182) C K184 hA (a, 20) 13 (by decide) (by decide) (by decide) ar_long ⟨Nat.le_of_ble_eq_true rfl, Nat.le_of_ble_eq_true rfl⟩ dX12_init_67 (fun q218 L219 κ220 ln221 R222 I223 J224 ow225 hq226 K227 => ?_)
  have hE228 := hq226.2.2.2.2.2.2.2.2
  have md229 := md210.ex hE228 (hq226.gd (by decide))
  have fa230 := fa211.ex hl194 hE228
  have fa231 := fa212.ex hl194 hE228
  have fa232 := fa213.ex hl194 hE228
  have fa233 := fa214.ex hl194 hE228
  have fa234 := fa215.ex hl194 hE228
  have fa235 := fa216.ex hl194 hE228
  have fa236 := fa217.ex hl194 hE228
  have z237 : ∀ j, I223 a j = 0 := fun j => ((hE228 a hl194).2.2.2.2.1 j).trans (z193 j)
  have hl238 := (hE228 a hl194).1
  have hk239 := ((hE228 a hl194).2.1).trans hk195
  have hl240 := (hE228 q1 hl196).1
  have hk241 := ((hE228 q1 hl196).2.1).trans hk197
  have hl242 := (hE228 q20 hl198).1
  have hk243 := ((hE228 q20 hl198).2.1).trans hk199
  have hl244 := (hE228 q43 hl200).1
  have hk245 := ((hE228 q43 hl200).2.1).trans hk201
  have hl246 := (hE228 q70 hl202).1
  have hk247 := ((hE228 q70 hl202).2.1).trans hk203
  have hl248 := (hE228 q101 hl204).1
  have hk249 := ((hE228 q101 hl204).2.1).trans hk205
  have hl250 := (hE228 q136 hl206).1
  have hk251 := ((hE228 q136 hl206).2.1).trans hk207
  have hl252 := (hE228 q175 hq183.2.1).1
  have hk253 := ((hE228 q175 hq183.2.1).2.1).trans hq183.2.2.2.1
  refine a_putR C K227 hl238 hk239 f_12_32 p_12_20 hin rfl rfl rfl dX12_init_69 (fun R254 hR255 => ?_)
  have md256 := md229.putR ha hR255
  have fa257 := fa230.put hR255 (show 1 ≠ 20 by decide)
  have fa258 := fa231.put hR255 (show 14 ≠ 20 by decide)
  have fa259 := fa232.put hR255 (show 15 ≠ 20 by decide)
  have fa260 := fa233.put hR255 (show 16 ≠ 20 by decide)
  have fa261 := fa234.put hR255 (show 17 ≠ 20 by decide)
  have fa262 := fa235.put hR255 (show 18 ≠ 20 by decide)
  have fa263 := fa236.put hR255 (show 19 ≠ 20 by decide)
  have fa264 : Fa L219 κ220 ln221 R254 ow225 I223 a 20 15 13 := Fa.new hR255 hq226.2.1 hq226.2.2.2.1 (fun _ => ⟨hq226.2.2.2.2.1, hq226.2.2.2.2.2.1⟩)
  refine g_aload_n C 0 dX12_init_72 rfl rfl ?_
  refine g_bipush C (v := 26) dX12_init_73 (by decide) ?_
  refine a_newJ (ow := ow225) C K227 hA (a, 21) 26 (by decide) (by decide) (by decide) ar_long ⟨Nat.le_of_ble_eq_true rfl, Nat.le_of_ble_eq_true rfl⟩ dX12_init_75 (fun q265 L266 κ267 ln268 R269 I270 J271 ow272 hq273 K274 => ?_)
  have hE275 := hq273.2.2.2.2.2.2.2.2
  have md276 := md256.ex hE275 (hq273.gd (by decide))
  have fa277 := fa257.ex hl238 hE275
  have fa278 := fa258.ex hl238 hE275
  have fa279 := fa259.ex hl238 hE275
  have fa280 := fa260.ex hl238 hE275
  have fa281 := fa261.ex hl238 hE275
  have fa282 := fa262.ex hl238 hE275
  have fa283 := fa263.ex hl238 hE275
  have fa284 := fa264.ex hl238 hE275
  have z285 : ∀ j, I270 a j = 0 := fun j => ((hE275 a hl238).2.2.2.2.1 j).trans (z237 j)
  have hl286 := (hE275 a hl238).1
  have hk287 := ((hE275 a hl238).2.1).trans hk239
  have hl288 := (hE275 q1 hl240).1
  have hk289 := ((hE275 q1 hl240).2.1).trans hk241
  have hl290 := (hE275 q20 hl242).1
  have hk291 := ((hE275 q20 hl242).2.1).trans hk243
  have hl292 := (hE275 q43 hl244).1
  have hk293 := ((hE275 q43 hl244).2.1).trans hk245
  have hl294 := (hE275 q70 hl246).1
  have hk295 := ((hE275 q70 hl246).2.1).trans hk247
  have hl296 := (hE275 q101 hl248).1
  have hk297 := ((hE275 q101 hl248).2.1).trans hk249
  have hl298 := (hE275 q136 hl250).1
  have hk299 := ((hE275 q136 hl250).2.1).trans hk251
  have hl300 := (hE275 q175 hl252).1
  have hk301 := ((hE275 q175 hl252).2.1).trans hk253
  have hl302 := (hE275 q218 hq226.2.1).1
  have hk303 := ((hE275 q218 hq226.2.1).2.1).trans hq226.2.2.2.1
  refine a_putR C K274 hl286 hk287 f_12_35 p_12_21 hin rfl rfl rfl dX12_init_77 (fun R304 hR305 => ?_)
  have md306 := md276.putR ha hR305
  have fa307 := fa277.put hR305 (show 1 ≠ 21 by decide)
  have fa308 := fa278.put hR305 (show 14 ≠ 21 by decide)
  have fa309 := fa279.put hR305 (show 15 ≠ 21 by decide)
  have fa310 := fa280.put hR305 (show 16 ≠ 21 by decide)
  have fa311 := fa281.put hR305 (show 17 ≠ 21 by decide)
  have fa312 := fa282.put hR305 (show 18 ≠ 21 by decide)
  have fa313 := fa283.put hR305 (show 19 ≠ 21 by decide)
  have fa314 := fa284.put hR305 (show 20 ≠ 21 by decide)
  have fa315 : Fa L266 κ267 ln268 R304 ow272 I270 a 21 15 26 := Fa.new hR305 hq273.2.1 hq273.2.2.2.1 (fun _ => ⟨hq273.2.2.2.2.1, hq273.2.2.2.2.2.1⟩)
  refine g_aload_n C 0 dX12_init_80 rfl rfl ?_
  refine g_iconst C (v := 2) dX12_init_81 (by decide) ?_
  refine a_newZ (ow := ow272) C K274 hA (a, 22) 2 (by decide) (by decide) (by decide) ar_boolean ⟨Nat.le_of_ble_eq_true rfl, Nat.le_of_ble_eq_true rfl⟩ dX12_init_82 (fun q316 L317 κ318 ln319 R320 I321 J322 ow323 hq324 K325 => ?_)
  have hE326 := hq324.2.2.2.2.2.2.2.2
  have md327 := md306.ex hE326 (hq324.gd (by decide))
  have fa328 := fa307.ex hl286 hE326
  have fa329 := fa308.ex hl286 hE326
  have fa330 := fa309.ex hl286 hE326
  have fa331 := fa310.ex hl286 hE326
  have fa332 := fa311.ex hl286 hE326
  have fa333 := fa312.ex hl286 hE326
  have fa334 := fa313.ex hl286 hE326
  have fa335 := fa314.ex hl286 hE326
  have fa336 := fa315.ex hl286 hE326
  have z337 : ∀ j, I321 a j = 0 := fun j => ((hE326 a hl286).2.2.2.2.1 j).trans (z285 j)
  have hl338 := (hE326 a hl286).1
  have hk339 := ((hE326 a hl286).2.1).trans hk287
  have hl340 := (hE326 q1 hl288).1
  have hk341 := ((hE326 q1 hl288).2.1).trans hk289
  have hl342 := (hE326 q20 hl290).1
  have hk343 := ((hE326 q20 hl290).2.1).trans hk291
  have hl344 := (hE326 q43 hl292).1
  have hk345 := ((hE326 q43 hl292).2.1).trans hk293
  have hl346 := (hE326 q70 hl294).1
  have hk347 := ((hE326 q70 hl294).2.1).trans hk295
  have hl348 := (hE326 q101 hl296).1
  have hk349 := ((hE326 q101 hl296).2.1).trans hk297
  have hl350 := (hE326 q136 hl298).1
  have hk351 := ((hE326 q136 hl298).2.1).trans hk299
  have hl352 := (hE326 q175 hl300).1
  have hk353 := ((hE326 q175 hl300).2.1).trans hk301
  have hl354 := (hE326 q218 hl302).1
  have hk355 := ((hE326 q218 hl302).2.1).trans hk303
  have hl356 := (hE326 q265 hq273.2.1).1
  have hk357 := ((hE326 q265 hq273.2.1).2.1).trans hq273.2.2.2.1
  refine a_putR C K325 hl338 hk339 f_12_38 p_12_22 hin rfl rfl rfl dX12_init_84 (fun R358 hR359 => ?_)
  have md360 := md327.putR ha hR359
  have fa361 := fa328.put hR359 (show 1 ≠ 22 by decide)
  have fa362 := fa329.put hR359 (show 14 ≠ 22 by decide)
  have fa363 := fa330.put hR359 (show 15 ≠ 22 by decide)
  have fa364 := fa331.put hR359 (show 16 ≠ 22 by decide)
  have fa365 := fa332.put hR359 (show 17 ≠ 22 by decide)
  have fa366 := fa333.put hR359 (show 18 ≠ 22 by decide)
  have fa367 := fa334.put hR359 (show 19 ≠ 22 by decide)
  have fa368 := fa335.put hR359 (show 20 ≠ 22 by decide)
  have fa369 := fa336.put hR359 (show 21 ≠ 22 by decide)
  have fa370 : Fa L317 κ318 ln319 R358 ow323 I321 a 22 16 2 := Fa.new hR359 hq324.2.1 hq324.2.2.2.1 (fun _ => ⟨hq324.2.2.2.2.1, hq324.2.2.2.2.2.1⟩)
  refine g_aload_n C 0 dX12_init_87 rfl rfl ?_
  refine g_bipush C (v := 7) dX12_init_88 (by decide) ?_
  refine a_newI (ow := ow323) C K325 hA (a, 26) 7 (by decide) (by decide) (by decide) ar_int ⟨Nat.le_of_ble_eq_true rfl, Nat.le_of_ble_eq_true rfl⟩ dX12_init_90 (fun q371 L372 κ373 ln374 R375 I376 J377 ow378 hq379 K380 => ?_)
  have hE381 := hq379.2.2.2.2.2.2.2.2
  have md382 := md360.ex hE381 (hq379.gd (by decide))
  have fa383 := fa361.ex hl338 hE381
  have fa384 := fa362.ex hl338 hE381
  have fa385 := fa363.ex hl338 hE381
  have fa386 := fa364.ex hl338 hE381
  have fa387 := fa365.ex hl338 hE381
  have fa388 := fa366.ex hl338 hE381
  have fa389 := fa367.ex hl338 hE381
  have fa390 := fa368.ex hl338 hE381
  have fa391 := fa369.ex hl338 hE381
  have fa392 := fa370.ex hl338 hE381
  have z393 : ∀ j, I376 a j = 0 := fun j => ((hE381 a hl338).2.2.2.2.1 j).trans (z337 j)
  have hl394 := (hE381 a hl338).1
  have hk395 := ((hE381 a hl338).2.1).trans hk339
  have hl396 := (hE381 q1 hl340).1
  have hk397 := ((hE381 q1 hl340).2.1).trans hk341
  have hl398 := (hE381 q20 hl342).1
  have hk399 := ((hE381 q20 hl342).2.1).trans hk343
  have hl400 := (hE381 q43 hl344).1
  have hk401 := ((hE381 q43 hl344).2.1).trans hk345
  have hl402 := (hE381 q70 hl346).1
  have hk403 := ((hE381 q70 hl346).2.1).trans hk347
  have hl404 := (hE381 q101 hl348).1
  have hk405 := ((hE381 q101 hl348).2.1).trans hk349
  have hl406 := (hE381 q136 hl350).1
  have hk407 := ((hE381 q136 hl350).2.1).trans hk351
  have hl408 := (hE381 q175 hl352).1
  have hk409 := ((hE381 q175 hl352).2.1).trans hk353
  have hl410 := (hE381 q218 hl354).1
  have hk411 := ((hE381 q218 hl354).2.1).trans hk355
  have hl412 := (hE381 q265 hl356).1
  have hk413 := ((hE381 q265 hl356).2.1).trans hk357
  have hl414 := (hE381 q316 hq324.2.1).1
  have hk415 := ((hE381 q316 hq324.2.1).2.1).trans hq324.2.2.2.1
  refine a_putR C K380 hl394 hk395 f_12_42 p_12_26 hin rfl rfl rfl dX12_init_92 (fun R416 hR417 => ?_)
  have md418 := md382.putR ha hR417
  have fa419 := fa383.put hR417 (show 1 ≠ 26 by decide)
  have fa420 := fa384.put hR417 (show 14 ≠ 26 by decide)
  have fa421 := fa385.put hR417 (show 15 ≠ 26 by decide)
  have fa422 := fa386.put hR417 (show 16 ≠ 26 by decide)
  have fa423 := fa387.put hR417 (show 17 ≠ 26 by decide)
  have fa424 := fa388.put hR417 (show 18 ≠ 26 by decide)
  have fa425 := fa389.put hR417 (show 19 ≠ 26 by decide)
  have fa426 := fa390.put hR417 (show 20 ≠ 26 by decide)
  have fa427 := fa391.put hR417 (show 21 ≠ 26 by decide)
  have fa428 := fa392.put hR417 (show 22 ≠ 26 by decide)
  have fa429 : Fa L372 κ373 ln374 R416 ow378 I376 a 26 14 7 := Fa.new hR417 hq379.2.1 hq379.2.2.2.1 (fun _ => ⟨hq379.2.2.2.2.1, hq379.2.2.2.2.2.1⟩)
  refine g_aload_n C 0 dX12_init_95 rfl rfl ?_
  refine g_bipush C (v := 7) dX12_init_96 (by decide) ?_
  refine a_newI (ow := ow378) C K380 hA (a, 27) 7 (by decide) (by decide) (by decide) ar_int ⟨Nat.le_of_ble_eq_true rfl, Nat.le_of_ble_eq_true rfl⟩ dX12_init_98 (fun q430 L431 κ432 ln433 R434 I435 J436 ow437 hq438 K439 => ?_)
  have hE440 := hq438.2.2.2.2.2.2.2.2
  have md441 := md418.ex hE440 (hq438.gd (by decide))
  have fa442 := fa419.ex hl394 hE440
  have fa443 := fa420.ex hl394 hE440
  have fa444 := fa421.ex hl394 hE440
  have fa445 := fa422.ex hl394 hE440
  have fa446 := fa423.ex hl394 hE440
  have fa447 := fa424.ex hl394 hE440
  have fa448 := fa425.ex hl394 hE440
  have fa449 := fa426.ex hl394 hE440
  have fa450 := fa427.ex hl394 hE440
  have fa451 := fa428.ex hl394 hE440
  have fa452 := fa429.ex hl394 hE440
  have z453 : ∀ j, I435 a j = 0 := fun j => ((hE440 a hl394).2.2.2.2.1 j).trans (z393 j)
  have hl454 := (hE440 a hl394).1
  have hk455 := ((hE440 a hl394).2.1).trans hk395
  have hl456 := (hE440 q1 hl396).1
  have hk457 := ((hE440 q1 hl396).2.1).trans hk397
  have hl458 := (hE440 q20 hl398).1
  have hk459 := ((hE440 q20 hl398).2.1).trans hk399
  have hl460 := (hE440 q43 hl400).1
  have hk461 := ((hE440 q43 hl400).2.1).trans hk401
  have hl462 := (hE440 q70 hl402).1
  have hk463 := ((hE440 q70 hl402).2.1).trans hk403
  have hl464 := (hE440 q101 hl404).1
  have hk465 := ((hE440 q101 hl404).2.1).trans hk405
  have hl466 := (hE440 q136 hl406).1
  have hk467 := ((hE440 q136 hl406).2.1).trans hk407
  have hl468 := (hE440 q175 hl408).1
  have hk469 := ((hE440 q175 hl408).2.1).trans hk409
  have hl470 := (hE440 q218 hl410).1
  have hk471 := ((hE440 q218 hl410).2.1).trans hk411
  have hl472 := (hE440 q265 hl412).1
  have hk473 := ((hE440 q265 hl412).2.1).trans hk413
  have hl474 := (hE440 q316 hl414).1
  have hk475 := ((hE440 q316 hl414).2.1).trans hk415
  have hl476 := (hE440 q371 hq379.2.1).1
  have hk477 := ((hE440 q371 hq379.2.1).2.1).trans hq379.2.2.2.1
  refine a_putR C K439 hl454 hk455 f_12_45 p_12_27 hin rfl rfl rfl dX12_init_100 (fun R478 hR479 => ?_)
  have md480 := md441.putR ha hR479
  have fa481 := fa442.put hR479 (show 1 ≠ 27 by decide)
  have fa482 := fa443.put hR479 (show 14 ≠ 27 by decide)
  have fa483 := fa444.put hR479 (show 15 ≠ 27 by decide)
  have fa484 := fa445.put hR479 (show 16 ≠ 27 by decide)
  have fa485 := fa446.put hR479 (show 17 ≠ 27 by decide)
  have fa486 := fa447.put hR479 (show 18 ≠ 27 by decide)
  have fa487 := fa448.put hR479 (show 19 ≠ 27 by decide)
  have fa488 := fa449.put hR479 (show 20 ≠ 27 by decide)
  have fa489 := fa450.put hR479 (show 21 ≠ 27 by decide)
  have fa490 := fa451.put hR479 (show 22 ≠ 27 by decide)
  have fa491 := fa452.put hR479 (show 26 ≠ 27 by decide)
  have fa492 : Fa L431 κ432 ln433 R478 ow437 I435 a 27 14 7 := Fa.new hR479 hq438.2.1 hq438.2.2.2.1 (fun _ => ⟨hq438.2.2.2.2.1, hq438.2.2.2.2.2.1⟩)
  refine g_aload_n C 0 dX12_init_103 rfl rfl ?_
  refine g_sipush C (v := 525) dX12_init_104 (by decide) ?_
  refine a_newI (ow := ow437) C K439 hA (a, 28) 525 (by decide) (by decide) (by decide) ar_int ⟨Nat.le_of_ble_eq_true rfl, Nat.le_of_ble_eq_true rfl⟩ dX12_init_107 (fun q493 L494 κ495 ln496 R497 I498 J499 ow500 hq501 K502 => ?_)
  have hE503 := hq501.2.2.2.2.2.2.2.2
  have md504 := md480.ex hE503 (hq501.gd (by decide))
  have fa505 := fa481.ex hl454 hE503
  have fa506 := fa482.ex hl454 hE503
  have fa507 := fa483.ex hl454 hE503
  have fa508 := fa484.ex hl454 hE503
  have fa509 := fa485.ex hl454 hE503
  have fa510 := fa486.ex hl454 hE503
  have fa511 := fa487.ex hl454 hE503
  have fa512 := fa488.ex hl454 hE503
  have fa513 := fa489.ex hl454 hE503
  have fa514 := fa490.ex hl454 hE503
  have fa515 := fa491.ex hl454 hE503
  have fa516 := fa492.ex hl454 hE503
  have z517 : ∀ j, I498 a j = 0 := fun j => ((hE503 a hl454).2.2.2.2.1 j).trans (z453 j)
  have hl518 := (hE503 a hl454).1
  have hk519 := ((hE503 a hl454).2.1).trans hk455
  have hl520 := (hE503 q1 hl456).1
  have hk521 := ((hE503 q1 hl456).2.1).trans hk457
  have hl522 := (hE503 q20 hl458).1
  have hk523 := ((hE503 q20 hl458).2.1).trans hk459
  have hl524 := (hE503 q43 hl460).1
  have hk525 := ((hE503 q43 hl460).2.1).trans hk461
  have hl526 := (hE503 q70 hl462).1
  have hk527 := ((hE503 q70 hl462).2.1).trans hk463
  have hl528 := (hE503 q101 hl464).1
  have hk529 := ((hE503 q101 hl464).2.1).trans hk465
  have hl530 := (hE503 q136 hl466).1
  have hk531 := ((hE503 q136 hl466).2.1).trans hk467
  have hl532 := (hE503 q175 hl468).1
  have hk533 := ((hE503 q175 hl468).2.1).trans hk469
  have hl534 := (hE503 q218 hl470).1
  have hk535 := ((hE503 q218 hl470).2.1).trans hk471
  have hl536 := (hE503 q265 hl472).1
  have hk537 := ((hE503 q265 hl472).2.1).trans hk473
  have hl538 := (hE503 q316 hl474).1
  have hk539 := ((hE503 q316 hl474).2.1).trans hk475
  have hl540 := (hE503 q371 hl476).1
  have hk541 := ((hE503 q371 hl476).2.1).trans hk477
  have hl542 := (hE503 q430 hq438.2.1).1
  have hk543 := ((hE503 q430 hq438.2.1).2.1).trans hq438.2.2.2.1
  refine a_putR C K502 hl518 hk519 f_12_48 p_12_28 hin rfl rfl rfl dX12_init_109 (fun R544 hR545 => ?_)
  have md546 := md504.putR ha hR545
  have fa547 := fa505.put hR545 (show 1 ≠ 28 by decide)
  have fa548 := fa506.put hR545 (show 14 ≠ 28 by decide)
  have fa549 := fa507.put hR545 (show 15 ≠ 28 by decide)
  have fa550 := fa508.put hR545 (show 16 ≠ 28 by decide)
  have fa551 := fa509.put hR545 (show 17 ≠ 28 by decide)
  have fa552 := fa510.put hR545 (show 18 ≠ 28 by decide)
  have fa553 := fa511.put hR545 (show 19 ≠ 28 by decide)
  have fa554 := fa512.put hR545 (show 20 ≠ 28 by decide)
  have fa555 := fa513.put hR545 (show 21 ≠ 28 by decide)
  have fa556 := fa514.put hR545 (show 22 ≠ 28 by decide)
  have fa557 := fa515.put hR545 (show 26 ≠ 28 by decide)
  have fa558 := fa516.put hR545 (show 27 ≠ 28 by decide)
  have fa559 : Fa L494 κ495 ln496 R544 ow500 I498 a 28 14 525 := Fa.new hR545 hq501.2.1 hq501.2.2.2.1 (fun _ => ⟨hq501.2.2.2.2.1, hq501.2.2.2.2.2.1⟩)
  refine g_aload_n C 0 dX12_init_112 rfl rfl ?_
  refine g_bipush C (v := 7) dX12_init_113 (by decide) ?_
  refine a_newI (ow := ow500) C K502 hA (a, 31) 7 (by decide) (by decide) (by decide) ar_int ⟨Nat.le_of_ble_eq_true rfl, Nat.le_of_ble_eq_true rfl⟩ dX12_init_115 (fun q560 L561 κ562 ln563 R564 I565 J566 ow567 hq568 K569 => ?_)
  have hE570 := hq568.2.2.2.2.2.2.2.2
  have md571 := md546.ex hE570 (hq568.gd (by decide))
  have fa572 := fa547.ex hl518 hE570
  have fa573 := fa548.ex hl518 hE570
  have fa574 := fa549.ex hl518 hE570
  have fa575 := fa550.ex hl518 hE570
  have fa576 := fa551.ex hl518 hE570
  have fa577 := fa552.ex hl518 hE570
  have fa578 := fa553.ex hl518 hE570
  have fa579 := fa554.ex hl518 hE570
  have fa580 := fa555.ex hl518 hE570
  have fa581 := fa556.ex hl518 hE570
  have fa582 := fa557.ex hl518 hE570
  have fa583 := fa558.ex hl518 hE570
  have fa584 := fa559.ex hl518 hE570
  have z585 : ∀ j, I565 a j = 0 := fun j => ((hE570 a hl518).2.2.2.2.1 j).trans (z517 j)
  have hl586 := (hE570 a hl518).1
  have hk587 := ((hE570 a hl518).2.1).trans hk519
  have hl588 := (hE570 q1 hl520).1
  have hk589 := ((hE570 q1 hl520).2.1).trans hk521
  have hl590 := (hE570 q20 hl522).1
  have hk591 := ((hE570 q20 hl522).2.1).trans hk523
  have hl592 := (hE570 q43 hl524).1
  have hk593 := ((hE570 q43 hl524).2.1).trans hk525
  have hl594 := (hE570 q70 hl526).1
  have hk595 := ((hE570 q70 hl526).2.1).trans hk527
  have hl596 := (hE570 q101 hl528).1
  have hk597 := ((hE570 q101 hl528).2.1).trans hk529
  have hl598 := (hE570 q136 hl530).1
  have hk599 := ((hE570 q136 hl530).2.1).trans hk531
  have hl600 := (hE570 q175 hl532).1
  have hk601 := ((hE570 q175 hl532).2.1).trans hk533
  have hl602 := (hE570 q218 hl534).1
  have hk603 := ((hE570 q218 hl534).2.1).trans hk535
  have hl604 := (hE570 q265 hl536).1
  have hk605 := ((hE570 q265 hl536).2.1).trans hk537
  have hl606 := (hE570 q316 hl538).1
  have hk607 := ((hE570 q316 hl538).2.1).trans hk539
  have hl608 := (hE570 q371 hl540).1
  have hk609 := ((hE570 q371 hl540).2.1).trans hk541
  have hl610 := (hE570 q430 hl542).1
  have hk611 := ((hE570 q430 hl542).2.1).trans hk543
  have hl612 := (hE570 q493 hq501.2.1).1
  have hk613 := ((hE570 q493 hq501.2.1).2.1).trans hq501.2.2.2.1
  refine a_putR C K569 hl586 hk587 f_12_51 p_12_31 hin rfl rfl rfl dX12_init_117 (fun R614 hR615 => ?_)
  have md616 := md571.putR ha hR615
  have fa617 := fa572.put hR615 (show 1 ≠ 31 by decide)
  have fa618 := fa573.put hR615 (show 14 ≠ 31 by decide)
  have fa619 := fa574.put hR615 (show 15 ≠ 31 by decide)
  have fa620 := fa575.put hR615 (show 16 ≠ 31 by decide)
  have fa621 := fa576.put hR615 (show 17 ≠ 31 by decide)
  have fa622 := fa577.put hR615 (show 18 ≠ 31 by decide)
  have fa623 := fa578.put hR615 (show 19 ≠ 31 by decide)
  have fa624 := fa579.put hR615 (show 20 ≠ 31 by decide)
  have fa625 := fa580.put hR615 (show 21 ≠ 31 by decide)
  have fa626 := fa581.put hR615 (show 22 ≠ 31 by decide)
  have fa627 := fa582.put hR615 (show 26 ≠ 31 by decide)
  have fa628 := fa583.put hR615 (show 27 ≠ 31 by decide)
  have fa629 := fa584.put hR615 (show 28 ≠ 31 by decide)
  have fa630 : Fa L561 κ562 ln563 R614 ow567 I565 a 31 14 7 := Fa.new hR615 hq568.2.1 hq568.2.2.2.1 (fun _ => ⟨hq568.2.2.2.2.1, hq568.2.2.2.2.2.1⟩)
  refine g_aload_n C 0 dX12_init_120 rfl rfl ?_
  refine g_iconst C (v := (-1)) dX12_init_121 (by decide) ?_
  refine h_putI C K569 hl586 hk587 f_12_54 p_12_32 dX12_init_122 (fun I631 hI632 => ?_)
  have md633 := md616.putI ha hI632
  have z634 : ∀ j, I631 a j = (if j = 32 then (-1) else 0) := fun j => by rw [hI632]; by_cases h : j = 32 <;> simp [u2_, h, z585]
  have fa635 := fa617.putI (I3 := I631)
  have fa636 := fa618.putI (I3 := I631)
  have fa637 := fa619.putI (I3 := I631)
  have fa638 := fa620.putI (I3 := I631)
  have fa639 := fa621.putI (I3 := I631)
  have fa640 := fa622.putI (I3 := I631)
  have fa641 := fa623.putI (I3 := I631)
  have fa642 := fa624.putI (I3 := I631)
  have fa643 := fa625.putI (I3 := I631)
  have fa644 := fa626.putI (I3 := I631)
  have fa645 := fa627.putI (I3 := I631)
  have fa646 := fa628.putI (I3 := I631)
  have fa647 := fa629.putI (I3 := I631)
  have fa648 := fa630.putI (I3 := I631)
  refine g_aload_n C 0 dX12_init_125 rfl rfl ?_
  refine g_iconst C (v := (-1)) dX12_init_126 (by decide) ?_
  refine h_putI C K569 hl586 hk587 f_12_58 p_12_33 dX12_init_127 (fun I649 hI650 => ?_)
  have md651 := md633.putI ha hI650
  have z652 : ∀ j, I649 a j = (if j = 33 then (-1) else (if j = 32 then (-1) else 0)) := fun j => by rw [hI650]; by_cases h : j = 33 <;> simp [u2_, h, z634]
  have fa653 := fa635.putI (I3 := I649)
  have fa654 := fa636.putI (I3 := I649)
  have fa655 := fa637.putI (I3 := I649)
  have fa656 := fa638.putI (I3 := I649)
  have fa657 := fa639.putI (I3 := I649)
  have fa658 := fa640.putI (I3 := I649)
  have fa659 := fa641.putI (I3 := I649)
  have fa660 := fa642.putI (I3 := I649)
  have fa661 := fa643.putI (I3 := I649)
  have fa662 := fa644.putI (I3 := I649)
  have fa663 := fa645.putI (I3 := I649)
  have fa664 := fa646.putI (I3 := I649)
  have fa665 := fa647.putI (I3 := I649)
  have fa666 := fa648.putI (I3 := I649)
  refine g_aload_n C 0 dX12_init_130 rfl rfl ?_
  refine g_sipush C (v := 500) dX12_init_131 (by decide) ?_
  refine a_newZ (ow := ow567) C K569 hA (a, 34) 500 (by decide) (by decide) (by decide) ar_boolean ⟨Nat.le_of_ble_eq_true rfl, Nat.le_of_ble_eq_true rfl⟩ dX12_init_134 (fun q667 L668 κ669 ln670 R671 I672 J673 ow674 hq675 K676 => ?_)
  have hE677 := hq675.2.2.2.2.2.2.2.2
  have md678 := md651.ex hE677 (hq675.gd (by decide))
  have fa679 := fa653.ex hl586 hE677
  have fa680 := fa654.ex hl586 hE677
  have fa681 := fa655.ex hl586 hE677
  have fa682 := fa656.ex hl586 hE677
  have fa683 := fa657.ex hl586 hE677
  have fa684 := fa658.ex hl586 hE677
  have fa685 := fa659.ex hl586 hE677
  have fa686 := fa660.ex hl586 hE677
  have fa687 := fa661.ex hl586 hE677
  have fa688 := fa662.ex hl586 hE677
  have fa689 := fa663.ex hl586 hE677
  have fa690 := fa664.ex hl586 hE677
  have fa691 := fa665.ex hl586 hE677
  have fa692 := fa666.ex hl586 hE677
  have z693 : ∀ j, I672 a j = (if j = 33 then (-1) else (if j = 32 then (-1) else 0)) := fun j => ((hE677 a hl586).2.2.2.2.1 j).trans (z652 j)
  have hl694 := (hE677 a hl586).1
  have hk695 := ((hE677 a hl586).2.1).trans hk587
  have hl696 := (hE677 q1 hl588).1
  have hk697 := ((hE677 q1 hl588).2.1).trans hk589
  have hl698 := (hE677 q20 hl590).1
  have hk699 := ((hE677 q20 hl590).2.1).trans hk591
  have hl700 := (hE677 q43 hl592).1
  have hk701 := ((hE677 q43 hl592).2.1).trans hk593
  have hl702 := (hE677 q70 hl594).1
  have hk703 := ((hE677 q70 hl594).2.1).trans hk595
  have hl704 := (hE677 q101 hl596).1
  have hk705 := ((hE677 q101 hl596).2.1).trans hk597
  have hl706 := (hE677 q136 hl598).1
  have hk707 := ((hE677 q136 hl598).2.1).trans hk599
  have hl708 := (hE677 q175 hl600).1
  have hk709 := ((hE677 q175 hl600).2.1).trans hk601
  have hl710 := (hE677 q218 hl602).1
  have hk711 := ((hE677 q218 hl602).2.1).trans hk603
  have hl712 := (hE677 q265 hl604).1
  have hk713 := ((hE677 q265 hl604).2.1).trans hk605
  have hl714 := (hE677 q316 hl606).1
  have hk715 := ((hE677 q316 hl606).2.1).trans hk607
  have hl716 := (hE677 q371 hl608).1
  have hk717 := ((hE677 q371 hl608).2.1).trans hk609
  have hl718 := (hE677 q430 hl610).1
  have hk719 := ((hE677 q430 hl610).2.1).trans hk611
  have hl720 := (hE677 q493 hl612).1
  have hk721 := ((hE677 q493 hl612).2.1).trans hk613
  have hl722 := (hE677 q560 hq568.2.1).1
  have hk723 := ((hE677 q560 hq568.2.1).2.1).trans hq568.2.2.2.1
  refine a_putR C K676 hl694 hk695 f_12_61 p_12_34 hin rfl rfl rfl dX12_init_136 (fun R724 hR725 => ?_)
  have md726 := md678.putR ha hR725
  have fa727 := fa679.put hR725 (show 1 ≠ 34 by decide)
  have fa728 := fa680.put hR725 (show 14 ≠ 34 by decide)
  have fa729 := fa681.put hR725 (show 15 ≠ 34 by decide)
  have fa730 := fa682.put hR725 (show 16 ≠ 34 by decide)
  have fa731 := fa683.put hR725 (show 17 ≠ 34 by decide)
  have fa732 := fa684.put hR725 (show 18 ≠ 34 by decide)
  have fa733 := fa685.put hR725 (show 19 ≠ 34 by decide)
  have fa734 := fa686.put hR725 (show 20 ≠ 34 by decide)
  have fa735 := fa687.put hR725 (show 21 ≠ 34 by decide)
  have fa736 := fa688.put hR725 (show 22 ≠ 34 by decide)
  have fa737 := fa689.put hR725 (show 26 ≠ 34 by decide)
  have fa738 := fa690.put hR725 (show 27 ≠ 34 by decide)
  have fa739 := fa691.put hR725 (show 28 ≠ 34 by decide)
  have fa740 := fa692.put hR725 (show 31 ≠ 34 by decide)
  have fa741 : Fa L668 κ669 ln670 R724 ow674 I672 a 34 16 500 := Fa.new hR725 hq675.2.1 hq675.2.2.2.1 (fun _ => ⟨hq675.2.2.2.2.1, hq675.2.2.2.2.2.1⟩)
  refine g_aload_n C 0 dX12_init_139 rfl rfl ?_
  refine g_bipush C (v := 7) dX12_init_140 (by decide) ?_
  refine a_newI (ow := ow674) C K676 hA (a, 35) 7 (by decide) (by decide) (by decide) ar_int ⟨Nat.le_of_ble_eq_true rfl, Nat.le_of_ble_eq_true rfl⟩ dX12_init_142 (fun q742 L743 κ744 ln745 R746 I747 J748 ow749 hq750 K751 => ?_)
  have hE752 := hq750.2.2.2.2.2.2.2.2
  have md753 := md726.ex hE752 (hq750.gd (by decide))
  have fa754 := fa727.ex hl694 hE752
  have fa755 := fa728.ex hl694 hE752
  have fa756 := fa729.ex hl694 hE752
  have fa757 := fa730.ex hl694 hE752
  have fa758 := fa731.ex hl694 hE752
  have fa759 := fa732.ex hl694 hE752
  have fa760 := fa733.ex hl694 hE752
  have fa761 := fa734.ex hl694 hE752
  have fa762 := fa735.ex hl694 hE752
  have fa763 := fa736.ex hl694 hE752
  have fa764 := fa737.ex hl694 hE752
  have fa765 := fa738.ex hl694 hE752
  have fa766 := fa739.ex hl694 hE752
  have fa767 := fa740.ex hl694 hE752
  have fa768 := fa741.ex hl694 hE752
  have z769 : ∀ j, I747 a j = (if j = 33 then (-1) else (if j = 32 then (-1) else 0)) := fun j => ((hE752 a hl694).2.2.2.2.1 j).trans (z693 j)
  have hl770 := (hE752 a hl694).1
  have hk771 := ((hE752 a hl694).2.1).trans hk695
  have hl772 := (hE752 q1 hl696).1
  have hk773 := ((hE752 q1 hl696).2.1).trans hk697
  have hl774 := (hE752 q20 hl698).1
  have hk775 := ((hE752 q20 hl698).2.1).trans hk699
  have hl776 := (hE752 q43 hl700).1
  have hk777 := ((hE752 q43 hl700).2.1).trans hk701
  have hl778 := (hE752 q70 hl702).1
  have hk779 := ((hE752 q70 hl702).2.1).trans hk703
  have hl780 := (hE752 q101 hl704).1
  have hk781 := ((hE752 q101 hl704).2.1).trans hk705
  have hl782 := (hE752 q136 hl706).1
  have hk783 := ((hE752 q136 hl706).2.1).trans hk707
  have hl784 := (hE752 q175 hl708).1
  have hk785 := ((hE752 q175 hl708).2.1).trans hk709
  have hl786 := (hE752 q218 hl710).1
  have hk787 := ((hE752 q218 hl710).2.1).trans hk711
  have hl788 := (hE752 q265 hl712).1
  have hk789 := ((hE752 q265 hl712).2.1).trans hk713
  have hl790 := (hE752 q316 hl714).1
  have hk791 := ((hE752 q316 hl714).2.1).trans hk715
  have hl792 := (hE752 q371 hl716).1
  have hk793 := ((hE752 q371 hl716).2.1).trans hk717
  have hl794 := (hE752 q430 hl718).1
  have hk795 := ((hE752 q430 hl718).2.1).trans hk719
  have hl796 := (hE752 q493 hl720).1
  have hk797 := ((hE752 q493 hl720).2.1).trans hk721
  have hl798 := (hE752 q560 hl722).1
  have hk799 := ((hE752 q560 hl722).2.1).trans hk723
  have hl800 := (hE752 q667 hq675.2.1).1
  have hk801 := ((hE752 q667 hq675.2.1).2.1).trans hq675.2.2.2.1
  refine a_putR C K751 hl770 hk771 f_12_64 p_12_35 hin rfl rfl rfl dX12_init_144 (fun R802 hR803 => ?_)
  have md804 := md753.putR ha hR803
  have fa805 := fa754.put hR803 (show 1 ≠ 35 by decide)
  have fa806 := fa755.put hR803 (show 14 ≠ 35 by decide)
  have fa807 := fa756.put hR803 (show 15 ≠ 35 by decide)
  have fa808 := fa757.put hR803 (show 16 ≠ 35 by decide)
  have fa809 := fa758.put hR803 (show 17 ≠ 35 by decide)
  have fa810 := fa759.put hR803 (show 18 ≠ 35 by decide)
  have fa811 := fa760.put hR803 (show 19 ≠ 35 by decide)
  have fa812 := fa761.put hR803 (show 20 ≠ 35 by decide)
  have fa813 := fa762.put hR803 (show 21 ≠ 35 by decide)
  have fa814 := fa763.put hR803 (show 22 ≠ 35 by decide)
  have fa815 := fa764.put hR803 (show 26 ≠ 35 by decide)
  have fa816 := fa765.put hR803 (show 27 ≠ 35 by decide)
  have fa817 := fa766.put hR803 (show 28 ≠ 35 by decide)
  have fa818 := fa767.put hR803 (show 31 ≠ 35 by decide)
  have fa819 := fa768.put hR803 (show 34 ≠ 35 by decide)
  have fa820 : Fa L743 κ744 ln745 R802 ow749 I747 a 35 14 7 := Fa.new hR803 hq750.2.1 hq750.2.2.2.1 (fun _ => ⟨hq750.2.2.2.2.1, hq750.2.2.2.2.2.1⟩)
  refine g_aload_n C 0 dX12_init_147 rfl rfl ?_
  refine g_bipush C (v := 7) dX12_init_148 (by decide) ?_
  refine a_newI (ow := ow749) C K751 hA (a, 36) 7 (by decide) (by decide) (by decide) ar_int ⟨Nat.le_of_ble_eq_true rfl, Nat.le_of_ble_eq_true rfl⟩ dX12_init_150 (fun q821 L822 κ823 ln824 R825 I826 J827 ow828 hq829 K830 => ?_)
  have hE831 := hq829.2.2.2.2.2.2.2.2
  have md832 := md804.ex hE831 (hq829.gd (by decide))
  have fa833 := fa805.ex hl770 hE831
  have fa834 := fa806.ex hl770 hE831
  have fa835 := fa807.ex hl770 hE831
  have fa836 := fa808.ex hl770 hE831
  have fa837 := fa809.ex hl770 hE831
  have fa838 := fa810.ex hl770 hE831
  have fa839 := fa811.ex hl770 hE831
  have fa840 := fa812.ex hl770 hE831
  have fa841 := fa813.ex hl770 hE831
  have fa842 := fa814.ex hl770 hE831
  have fa843 := fa815.ex hl770 hE831
  have fa844 := fa816.ex hl770 hE831
  have fa845 := fa817.ex hl770 hE831
  have fa846 := fa818.ex hl770 hE831
  have fa847 := fa819.ex hl770 hE831
  have fa848 := fa820.ex hl770 hE831
  have z849 : ∀ j, I826 a j = (if j = 33 then (-1) else (if j = 32 then (-1) else 0)) := fun j => ((hE831 a hl770).2.2.2.2.1 j).trans (z769 j)
  have hl850 := (hE831 a hl770).1
  have hk851 := ((hE831 a hl770).2.1).trans hk771
  have hl852 := (hE831 q1 hl772).1
  have hk853 := ((hE831 q1 hl772).2.1).trans hk773
  have hl854 := (hE831 q20 hl774).1
  have hk855 := ((hE831 q20 hl774).2.1).trans hk775
  have hl856 := (hE831 q43 hl776).1
  have hk857 := ((hE831 q43 hl776).2.1).trans hk777
  have hl858 := (hE831 q70 hl778).1
  have hk859 := ((hE831 q70 hl778).2.1).trans hk779
  have hl860 := (hE831 q101 hl780).1
  have hk861 := ((hE831 q101 hl780).2.1).trans hk781
  have hl862 := (hE831 q136 hl782).1
  have hk863 := ((hE831 q136 hl782).2.1).trans hk783
  have hl864 := (hE831 q175 hl784).1
  have hk865 := ((hE831 q175 hl784).2.1).trans hk785
  have hl866 := (hE831 q218 hl786).1
  have hk867 := ((hE831 q218 hl786).2.1).trans hk787
  have hl868 := (hE831 q265 hl788).1
  have hk869 := ((hE831 q265 hl788).2.1).trans hk789
  have hl870 := (hE831 q316 hl790).1
  have hk871 := ((hE831 q316 hl790).2.1).trans hk791
  have hl872 := (hE831 q371 hl792).1
  have hk873 := ((hE831 q371 hl792).2.1).trans hk793
  have hl874 := (hE831 q430 hl794).1
  have hk875 := ((hE831 q430 hl794).2.1).trans hk795
  have hl876 := (hE831 q493 hl796).1
  have hk877 := ((hE831 q493 hl796).2.1).trans hk797
  have hl878 := (hE831 q560 hl798).1
  have hk879 := ((hE831 q560 hl798).2.1).trans hk799
  have hl880 := (hE831 q667 hl800).1
  have hk881 := ((hE831 q667 hl800).2.1).trans hk801
  have hl882 := (hE831 q742 hq750.2.1).1
  have hk883 := ((hE831 q742 hq750.2.1).2.1).trans hq750.2.2.2.1
  refine a_putR C K830 hl850 hk851 f_12_67 p_12_36 hin rfl rfl rfl dX12_init_152 (fun R884 hR885 => ?_)
  have md886 := md832.putR ha hR885
  have fa887 := fa833.put hR885 (show 1 ≠ 36 by decide)
  have fa888 := fa834.put hR885 (show 14 ≠ 36 by decide)
  have fa889 := fa835.put hR885 (show 15 ≠ 36 by decide)
  have fa890 := fa836.put hR885 (show 16 ≠ 36 by decide)
  have fa891 := fa837.put hR885 (show 17 ≠ 36 by decide)
  have fa892 := fa838.put hR885 (show 18 ≠ 36 by decide)
  have fa893 := fa839.put hR885 (show 19 ≠ 36 by decide)
  have fa894 := fa840.put hR885 (show 20 ≠ 36 by decide)
  have fa895 := fa841.put hR885 (show 21 ≠ 36 by decide)
  have fa896 := fa842.put hR885 (show 22 ≠ 36 by decide)
  have fa897 := fa843.put hR885 (show 26 ≠ 36 by decide)
  have fa898 := fa844.put hR885 (show 27 ≠ 36 by decide)
  have fa899 := fa845.put hR885 (show 28 ≠ 36 by decide)
  have fa900 := fa846.put hR885 (show 31 ≠ 36 by decide)
  have fa901 := fa847.put hR885 (show 34 ≠ 36 by decide)
  have fa902 := fa848.put hR885 (show 35 ≠ 36 by decide)
  have fa903 : Fa L822 κ823 ln824 R884 ow828 I826 a 36 14 7 := Fa.new hR885 hq829.2.1 hq829.2.2.2.1 (fun _ => ⟨hq829.2.2.2.2.1, hq829.2.2.2.2.2.1⟩)
  refine g_aload_n C 0 dX12_init_155 rfl rfl ?_
  refine g_bipush C (v := 64) dX12_init_156 (by decide) ?_
  refine a_newI (ow := ow828) C K830 hA (a, 39) 64 (by decide) (by decide) (by decide) ar_int ⟨Nat.le_of_ble_eq_true rfl, Nat.le_of_ble_eq_true rfl⟩ dX12_init_158 (fun q904 L905 κ906 ln907 R908 I909 J910 ow911 hq912 K913 => ?_)
  have hE914 := hq912.2.2.2.2.2.2.2.2
  have md915 := md886.ex hE914 (hq912.gd (by decide))
  have fa916 := fa887.ex hl850 hE914
  have fa917 := fa888.ex hl850 hE914
  have fa918 := fa889.ex hl850 hE914
  have fa919 := fa890.ex hl850 hE914
  have fa920 := fa891.ex hl850 hE914
  have fa921 := fa892.ex hl850 hE914
  have fa922 := fa893.ex hl850 hE914
  have fa923 := fa894.ex hl850 hE914
  have fa924 := fa895.ex hl850 hE914
  have fa925 := fa896.ex hl850 hE914
  have fa926 := fa897.ex hl850 hE914
  have fa927 := fa898.ex hl850 hE914
  have fa928 := fa899.ex hl850 hE914
  have fa929 := fa900.ex hl850 hE914
  have fa930 := fa901.ex hl850 hE914
  have fa931 := fa902.ex hl850 hE914
  have fa932 := fa903.ex hl850 hE914
  have z933 : ∀ j, I909 a j = (if j = 33 then (-1) else (if j = 32 then (-1) else 0)) := fun j => ((hE914 a hl850).2.2.2.2.1 j).trans (z849 j)
  have hl934 := (hE914 a hl850).1
  have hk935 := ((hE914 a hl850).2.1).trans hk851
  have hl936 := (hE914 q1 hl852).1
  have hk937 := ((hE914 q1 hl852).2.1).trans hk853
  have hl938 := (hE914 q20 hl854).1
  have hk939 := ((hE914 q20 hl854).2.1).trans hk855
  have hl940 := (hE914 q43 hl856).1
  have hk941 := ((hE914 q43 hl856).2.1).trans hk857
  have hl942 := (hE914 q70 hl858).1
  have hk943 := ((hE914 q70 hl858).2.1).trans hk859
  have hl944 := (hE914 q101 hl860).1
  have hk945 := ((hE914 q101 hl860).2.1).trans hk861
  have hl946 := (hE914 q136 hl862).1
  have hk947 := ((hE914 q136 hl862).2.1).trans hk863
  have hl948 := (hE914 q175 hl864).1
  have hk949 := ((hE914 q175 hl864).2.1).trans hk865
  have hl950 := (hE914 q218 hl866).1
  have hk951 := ((hE914 q218 hl866).2.1).trans hk867
  have hl952 := (hE914 q265 hl868).1
  have hk953 := ((hE914 q265 hl868).2.1).trans hk869
  have hl954 := (hE914 q316 hl870).1
  have hk955 := ((hE914 q316 hl870).2.1).trans hk871
  have hl956 := (hE914 q371 hl872).1
  have hk957 := ((hE914 q371 hl872).2.1).trans hk873
  have hl958 := (hE914 q430 hl874).1
  have hk959 := ((hE914 q430 hl874).2.1).trans hk875
  have hl960 := (hE914 q493 hl876).1
  have hk961 := ((hE914 q493 hl876).2.1).trans hk877
  have hl962 := (hE914 q560 hl878).1
  have hk963 := ((hE914 q560 hl878).2.1).trans hk879
  have hl964 := (hE914 q667 hl880).1
  have hk965 := ((hE914 q667 hl880).2.1).trans hk881
  have hl966 := (hE914 q742 hl882).1
  have hk967 := ((hE914 q742 hl882).2.1).trans hk883
  have hl968 := (hE914 q821 hq829.2.1).1
  have hk969 := ((hE914 q821 hq829.2.1).2.1).trans hq829.2.2.2.1
  refine a_putR C K913 hl934 hk935 f_12_70 p_12_39 hin rfl rfl rfl dX12_init_160 (fun R970 hR971 => ?_)
  have md972 := md915.putR ha hR971
  have fa973 := fa916.put hR971 (show 1 ≠ 39 by decide)
  have fa974 := fa917.put hR971 (show 14 ≠ 39 by decide)
  have fa975 := fa918.put hR971 (show 15 ≠ 39 by decide)
  have fa976 := fa919.put hR971 (show 16 ≠ 39 by decide)
  have fa977 := fa920.put hR971 (show 17 ≠ 39 by decide)
  have fa978 := fa921.put hR971 (show 18 ≠ 39 by decide)
  have fa979 := fa922.put hR971 (show 19 ≠ 39 by decide)
  have fa980 := fa923.put hR971 (show 20 ≠ 39 by decide)
  have fa981 := fa924.put hR971 (show 21 ≠ 39 by decide)
  have fa982 := fa925.put hR971 (show 22 ≠ 39 by decide)
  have fa983 := fa926.put hR971 (show 26 ≠ 39 by decide)
  have fa984 := fa927.put hR971 (show 27 ≠ 39 by decide)
  have fa985 := fa928.put hR971 (show 28 ≠ 39 by decide)
  have fa986 := fa929.put hR971 (show 31 ≠ 39 by decide)
  have fa987 := fa930.put hR971 (show 34 ≠ 39 by decide)
  have fa988 := fa931.put hR971 (show 35 ≠ 39 by decide)
  have fa989 := fa932.put hR971 (show 36 ≠ 39 by decide)
  have fa990 : Fa L905 κ906 ln907 R970 ow911 I909 a 39 14 64 := Fa.new hR971 hq912.2.1 hq912.2.2.2.1 (fun _ => ⟨hq912.2.2.2.2.1, hq912.2.2.2.2.2.1⟩)
  refine g_aload_n C 0 dX12_init_163 rfl rfl ?_
  refine g_sipush C (v := 160) dX12_init_164 (by decide) ?_
  refine a_newI (ow := ow911) C K913 hA (a, 42) 160 (by decide) (by decide) (by decide) ar_int ⟨Nat.le_of_ble_eq_true rfl, Nat.le_of_ble_eq_true rfl⟩ dX12_init_167 (fun q991 L992 κ993 ln994 R995 I996 J997 ow998 hq999 K1000 => ?_)
  have hE1001 := hq999.2.2.2.2.2.2.2.2
  have md1002 := md972.ex hE1001 (hq999.gd (by decide))
  have fa1003 := fa973.ex hl934 hE1001
  have fa1004 := fa974.ex hl934 hE1001
  have fa1005 := fa975.ex hl934 hE1001
  have fa1006 := fa976.ex hl934 hE1001
  have fa1007 := fa977.ex hl934 hE1001
  have fa1008 := fa978.ex hl934 hE1001
  have fa1009 := fa979.ex hl934 hE1001
  have fa1010 := fa980.ex hl934 hE1001
  have fa1011 := fa981.ex hl934 hE1001
  have fa1012 := fa982.ex hl934 hE1001
  have fa1013 := fa983.ex hl934 hE1001
  have fa1014 := fa984.ex hl934 hE1001
  have fa1015 := fa985.ex hl934 hE1001
  have fa1016 := fa986.ex hl934 hE1001
  have fa1017 := fa987.ex hl934 hE1001
  have fa1018 := fa988.ex hl934 hE1001
  have fa1019 := fa989.ex hl934 hE1001
  have fa1020 := fa990.ex hl934 hE1001
  have z1021 : ∀ j, I996 a j = (if j = 33 then (-1) else (if j = 32 then (-1) else 0)) := fun j => ((hE1001 a hl934).2.2.2.2.1 j).trans (z933 j)
  have hl1022 := (hE1001 a hl934).1
  have hk1023 := ((hE1001 a hl934).2.1).trans hk935
  have hl1024 := (hE1001 q1 hl936).1
  have hk1025 := ((hE1001 q1 hl936).2.1).trans hk937
  have hl1026 := (hE1001 q20 hl938).1
  have hk1027 := ((hE1001 q20 hl938).2.1).trans hk939
  have hl1028 := (hE1001 q43 hl940).1
  have hk1029 := ((hE1001 q43 hl940).2.1).trans hk941
  have hl1030 := (hE1001 q70 hl942).1
  have hk1031 := ((hE1001 q70 hl942).2.1).trans hk943
  have hl1032 := (hE1001 q101 hl944).1
  have hk1033 := ((hE1001 q101 hl944).2.1).trans hk945
  have hl1034 := (hE1001 q136 hl946).1
  have hk1035 := ((hE1001 q136 hl946).2.1).trans hk947
  have hl1036 := (hE1001 q175 hl948).1
  have hk1037 := ((hE1001 q175 hl948).2.1).trans hk949
  have hl1038 := (hE1001 q218 hl950).1
  have hk1039 := ((hE1001 q218 hl950).2.1).trans hk951
  have hl1040 := (hE1001 q265 hl952).1
  have hk1041 := ((hE1001 q265 hl952).2.1).trans hk953
  have hl1042 := (hE1001 q316 hl954).1
  have hk1043 := ((hE1001 q316 hl954).2.1).trans hk955
  have hl1044 := (hE1001 q371 hl956).1
  have hk1045 := ((hE1001 q371 hl956).2.1).trans hk957
  have hl1046 := (hE1001 q430 hl958).1
  have hk1047 := ((hE1001 q430 hl958).2.1).trans hk959
  have hl1048 := (hE1001 q493 hl960).1
  have hk1049 := ((hE1001 q493 hl960).2.1).trans hk961
  have hl1050 := (hE1001 q560 hl962).1
  have hk1051 := ((hE1001 q560 hl962).2.1).trans hk963
  have hl1052 := (hE1001 q667 hl964).1
  have hk1053 := ((hE1001 q667 hl964).2.1).trans hk965
  have hl1054 := (hE1001 q742 hl966).1
  have hk1055 := ((hE1001 q742 hl966).2.1).trans hk967
  have hl1056 := (hE1001 q821 hl968).1
  have hk1057 := ((hE1001 q821 hl968).2.1).trans hk969
  have hl1058 := (hE1001 q904 hq912.2.1).1
  have hk1059 := ((hE1001 q904 hq912.2.1).2.1).trans hq912.2.2.2.1
  refine a_putR C K1000 hl1022 hk1023 f_12_73 p_12_42 hin rfl rfl rfl dX12_init_169 (fun R1060 hR1061 => ?_)
  have md1062 := md1002.putR ha hR1061
  have fa1063 := fa1003.put hR1061 (show 1 ≠ 42 by decide)
  have fa1064 := fa1004.put hR1061 (show 14 ≠ 42 by decide)
  have fa1065 := fa1005.put hR1061 (show 15 ≠ 42 by decide)
  have fa1066 := fa1006.put hR1061 (show 16 ≠ 42 by decide)
  have fa1067 := fa1007.put hR1061 (show 17 ≠ 42 by decide)
  have fa1068 := fa1008.put hR1061 (show 18 ≠ 42 by decide)
  have fa1069 := fa1009.put hR1061 (show 19 ≠ 42 by decide)
  have fa1070 := fa1010.put hR1061 (show 20 ≠ 42 by decide)
  have fa1071 := fa1011.put hR1061 (show 21 ≠ 42 by decide)
  have fa1072 := fa1012.put hR1061 (show 22 ≠ 42 by decide)
  have fa1073 := fa1013.put hR1061 (show 26 ≠ 42 by decide)
  have fa1074 := fa1014.put hR1061 (show 27 ≠ 42 by decide)
  have fa1075 := fa1015.put hR1061 (show 28 ≠ 42 by decide)
  have fa1076 := fa1016.put hR1061 (show 31 ≠ 42 by decide)
  have fa1077 := fa1017.put hR1061 (show 34 ≠ 42 by decide)
  have fa1078 := fa1018.put hR1061 (show 35 ≠ 42 by decide)
  have fa1079 := fa1019.put hR1061 (show 36 ≠ 42 by decide)
  have fa1080 := fa1020.put hR1061 (show 39 ≠ 42 by decide)
  have fa1081 : Fa L992 κ993 ln994 R1060 ow998 I996 a 42 14 160 := Fa.new hR1061 hq999.2.1 hq999.2.2.2.1 (fun _ => ⟨hq999.2.2.2.2.1, hq999.2.2.2.2.2.1⟩)
  refine g_aload_n C 0 dX12_init_172 rfl rfl ?_
  refine g_iconst C (v := 4) dX12_init_173 (by decide) ?_
  refine a_newI (ow := ow998) C K1000 hA (a, 43) 4 (by decide) (by decide) (by decide) ar_int ⟨Nat.le_of_ble_eq_true rfl, Nat.le_of_ble_eq_true rfl⟩ dX12_init_174 (fun q1082 L1083 κ1084 ln1085 R1086 I1087 J1088 ow1089 hq1090 K1091 => ?_)
  have hE1092 := hq1090.2.2.2.2.2.2.2.2
  have md1093 := md1062.ex hE1092 (hq1090.gd (by decide))
  have fa1094 := fa1063.ex hl1022 hE1092
  have fa1095 := fa1064.ex hl1022 hE1092
  have fa1096 := fa1065.ex hl1022 hE1092
  have fa1097 := fa1066.ex hl1022 hE1092
  have fa1098 := fa1067.ex hl1022 hE1092
  have fa1099 := fa1068.ex hl1022 hE1092
  have fa1100 := fa1069.ex hl1022 hE1092
  have fa1101 := fa1070.ex hl1022 hE1092
  have fa1102 := fa1071.ex hl1022 hE1092
  have fa1103 := fa1072.ex hl1022 hE1092
  have fa1104 := fa1073.ex hl1022 hE1092
  have fa1105 := fa1074.ex hl1022 hE1092
  have fa1106 := fa1075.ex hl1022 hE1092
  have fa1107 := fa1076.ex hl1022 hE1092
  have fa1108 := fa1077.ex hl1022 hE1092
  have fa1109 := fa1078.ex hl1022 hE1092
  have fa1110 := fa1079.ex hl1022 hE1092
  have fa1111 := fa1080.ex hl1022 hE1092
  have fa1112 := fa1081.ex hl1022 hE1092
  have z1113 : ∀ j, I1087 a j = (if j = 33 then (-1) else (if j = 32 then (-1) else 0)) := fun j => ((hE1092 a hl1022).2.2.2.2.1 j).trans (z1021 j)
  have hl1114 := (hE1092 a hl1022).1
  have hk1115 := ((hE1092 a hl1022).2.1).trans hk1023
  have hl1116 := (hE1092 q1 hl1024).1
  have hk1117 := ((hE1092 q1 hl1024).2.1).trans hk1025
  have hl1118 := (hE1092 q20 hl1026).1
  have hk1119 := ((hE1092 q20 hl1026).2.1).trans hk1027
  have hl1120 := (hE1092 q43 hl1028).1
  have hk1121 := ((hE1092 q43 hl1028).2.1).trans hk1029
  have hl1122 := (hE1092 q70 hl1030).1
  have hk1123 := ((hE1092 q70 hl1030).2.1).trans hk1031
  have hl1124 := (hE1092 q101 hl1032).1
  have hk1125 := ((hE1092 q101 hl1032).2.1).trans hk1033
  have hl1126 := (hE1092 q136 hl1034).1
  have hk1127 := ((hE1092 q136 hl1034).2.1).trans hk1035
  have hl1128 := (hE1092 q175 hl1036).1
  have hk1129 := ((hE1092 q175 hl1036).2.1).trans hk1037
  have hl1130 := (hE1092 q218 hl1038).1
  have hk1131 := ((hE1092 q218 hl1038).2.1).trans hk1039
  have hl1132 := (hE1092 q265 hl1040).1
  have hk1133 := ((hE1092 q265 hl1040).2.1).trans hk1041
  have hl1134 := (hE1092 q316 hl1042).1
  have hk1135 := ((hE1092 q316 hl1042).2.1).trans hk1043
  have hl1136 := (hE1092 q371 hl1044).1
  have hk1137 := ((hE1092 q371 hl1044).2.1).trans hk1045
  have hl1138 := (hE1092 q430 hl1046).1
  have hk1139 := ((hE1092 q430 hl1046).2.1).trans hk1047
  have hl1140 := (hE1092 q493 hl1048).1
  have hk1141 := ((hE1092 q493 hl1048).2.1).trans hk1049
  have hl1142 := (hE1092 q560 hl1050).1
  have hk1143 := ((hE1092 q560 hl1050).2.1).trans hk1051
  have hl1144 := (hE1092 q667 hl1052).1
  have hk1145 := ((hE1092 q667 hl1052).2.1).trans hk1053
  have hl1146 := (hE1092 q742 hl1054).1
  have hk1147 := ((hE1092 q742 hl1054).2.1).trans hk1055
  have hl1148 := (hE1092 q821 hl1056).1
  have hk1149 := ((hE1092 q821 hl1056).2.1).trans hk1057
  have hl1150 := (hE1092 q904 hl1058).1
  have hk1151 := ((hE1092 q904 hl1058).2.1).trans hk1059
  have hl1152 := (hE1092 q991 hq999.2.1).1
  have hk1153 := ((hE1092 q991 hq999.2.1).2.1).trans hq999.2.2.2.1
  refine a_putR C K1091 hl1114 hk1115 f_12_76 p_12_43 hin rfl rfl rfl dX12_init_176 (fun R1154 hR1155 => ?_)
  have md1156 := md1093.putR ha hR1155
  have fa1157 := fa1094.put hR1155 (show 1 ≠ 43 by decide)
  have fa1158 := fa1095.put hR1155 (show 14 ≠ 43 by decide)
  have fa1159 := fa1096.put hR1155 (show 15 ≠ 43 by decide)
  have fa1160 := fa1097.put hR1155 (show 16 ≠ 43 by decide)
  have fa1161 := fa1098.put hR1155 (show 17 ≠ 43 by decide)
  have fa1162 := fa1099.put hR1155 (show 18 ≠ 43 by decide)
  have fa1163 := fa1100.put hR1155 (show 19 ≠ 43 by decide)
  have fa1164 := fa1101.put hR1155 (show 20 ≠ 43 by decide)
  have fa1165 := fa1102.put hR1155 (show 21 ≠ 43 by decide)
  have fa1166 := fa1103.put hR1155 (show 22 ≠ 43 by decide)
  have fa1167 := fa1104.put hR1155 (show 26 ≠ 43 by decide)
  have fa1168 := fa1105.put hR1155 (show 27 ≠ 43 by decide)
  have fa1169 := fa1106.put hR1155 (show 28 ≠ 43 by decide)
  have fa1170 := fa1107.put hR1155 (show 31 ≠ 43 by decide)
  have fa1171 := fa1108.put hR1155 (show 34 ≠ 43 by decide)
  have fa1172 := fa1109.put hR1155 (show 35 ≠ 43 by decide)
  have fa1173 := fa1110.put hR1155 (show 36 ≠ 43 by decide)
  have fa1174 := fa1111.put hR1155 (show 39 ≠ 43 by decide)
  have fa1175 := fa1112.put hR1155 (show 42 ≠ 43 by decide)
  have fa1176 : Fa L1083 κ1084 ln1085 R1154 ow1089 I1087 a 43 14 4 := Fa.new hR1155 hq1090.2.1 hq1090.2.2.2.1 (fun _ => ⟨hq1090.2.2.2.2.1, hq1090.2.2.2.2.2.1⟩)
  refine g_aload_n C 0 dX12_init_179 rfl rfl ?_
  refine g_sipush C (v := 240) dX12_init_180 (by decide) ?_
  refine a_newI (ow := ow1089) C K1091 hA (a, 46) 240 (by decide) (by decide) (by decide) ar_int ⟨Nat.le_of_ble_eq_true rfl, Nat.le_of_ble_eq_true rfl⟩ dX12_init_183 (fun q1177 L1178 κ1179 ln1180 R1181 I1182 J1183 ow1184 hq1185 K1186 => ?_)
  have hE1187 := hq1185.2.2.2.2.2.2.2.2
  have md1188 := md1156.ex hE1187 (hq1185.gd (by decide))
  have fa1189 := fa1157.ex hl1114 hE1187
  have fa1190 := fa1158.ex hl1114 hE1187
  have fa1191 := fa1159.ex hl1114 hE1187
  have fa1192 := fa1160.ex hl1114 hE1187
  have fa1193 := fa1161.ex hl1114 hE1187
  have fa1194 := fa1162.ex hl1114 hE1187
  have fa1195 := fa1163.ex hl1114 hE1187
  have fa1196 := fa1164.ex hl1114 hE1187
  have fa1197 := fa1165.ex hl1114 hE1187
  have fa1198 := fa1166.ex hl1114 hE1187
  have fa1199 := fa1167.ex hl1114 hE1187
  have fa1200 := fa1168.ex hl1114 hE1187
  have fa1201 := fa1169.ex hl1114 hE1187
  have fa1202 := fa1170.ex hl1114 hE1187
  have fa1203 := fa1171.ex hl1114 hE1187
  have fa1204 := fa1172.ex hl1114 hE1187
  have fa1205 := fa1173.ex hl1114 hE1187
  have fa1206 := fa1174.ex hl1114 hE1187
  have fa1207 := fa1175.ex hl1114 hE1187
  have fa1208 := fa1176.ex hl1114 hE1187
  have z1209 : ∀ j, I1182 a j = (if j = 33 then (-1) else (if j = 32 then (-1) else 0)) := fun j => ((hE1187 a hl1114).2.2.2.2.1 j).trans (z1113 j)
  have hl1210 := (hE1187 a hl1114).1
  have hk1211 := ((hE1187 a hl1114).2.1).trans hk1115
  have hl1212 := (hE1187 q1 hl1116).1
  have hk1213 := ((hE1187 q1 hl1116).2.1).trans hk1117
  have hl1214 := (hE1187 q20 hl1118).1
  have hk1215 := ((hE1187 q20 hl1118).2.1).trans hk1119
  have hl1216 := (hE1187 q43 hl1120).1
  have hk1217 := ((hE1187 q43 hl1120).2.1).trans hk1121
  have hl1218 := (hE1187 q70 hl1122).1
  have hk1219 := ((hE1187 q70 hl1122).2.1).trans hk1123
  have hl1220 := (hE1187 q101 hl1124).1
  have hk1221 := ((hE1187 q101 hl1124).2.1).trans hk1125
  have hl1222 := (hE1187 q136 hl1126).1
  have hk1223 := ((hE1187 q136 hl1126).2.1).trans hk1127
  have hl1224 := (hE1187 q175 hl1128).1
  have hk1225 := ((hE1187 q175 hl1128).2.1).trans hk1129
  have hl1226 := (hE1187 q218 hl1130).1
  have hk1227 := ((hE1187 q218 hl1130).2.1).trans hk1131
  have hl1228 := (hE1187 q265 hl1132).1
  have hk1229 := ((hE1187 q265 hl1132).2.1).trans hk1133
  have hl1230 := (hE1187 q316 hl1134).1
  have hk1231 := ((hE1187 q316 hl1134).2.1).trans hk1135
  have hl1232 := (hE1187 q371 hl1136).1
  have hk1233 := ((hE1187 q371 hl1136).2.1).trans hk1137
  have hl1234 := (hE1187 q430 hl1138).1
  have hk1235 := ((hE1187 q430 hl1138).2.1).trans hk1139
  have hl1236 := (hE1187 q493 hl1140).1
  have hk1237 := ((hE1187 q493 hl1140).2.1).trans hk1141
  have hl1238 := (hE1187 q560 hl1142).1
  have hk1239 := ((hE1187 q560 hl1142).2.1).trans hk1143
  have hl1240 := (hE1187 q667 hl1144).1
  have hk1241 := ((hE1187 q667 hl1144).2.1).trans hk1145
  have hl1242 := (hE1187 q742 hl1146).1
  have hk1243 := ((hE1187 q742 hl1146).2.1).trans hk1147
  have hl1244 := (hE1187 q821 hl1148).1
  have hk1245 := ((hE1187 q821 hl1148).2.1).trans hk1149
  have hl1246 := (hE1187 q904 hl1150).1
  have hk1247 := ((hE1187 q904 hl1150).2.1).trans hk1151
  have hl1248 := (hE1187 q991 hl1152).1
  have hk1249 := ((hE1187 q991 hl1152).2.1).trans hk1153
  have hl1250 := (hE1187 q1082 hq1090.2.1).1
  have hk1251 := ((hE1187 q1082 hq1090.2.1).2.1).trans hq1090.2.2.2.1
  refine a_putR C K1186 hl1210 hk1211 f_12_79 p_12_46 hin rfl rfl rfl dX12_init_185 (fun R1252 hR1253 => ?_)
  have md1254 := md1188.putR ha hR1253
  have fa1255 := fa1189.put hR1253 (show 1 ≠ 46 by decide)
  have fa1256 := fa1190.put hR1253 (show 14 ≠ 46 by decide)
  have fa1257 := fa1191.put hR1253 (show 15 ≠ 46 by decide)
  have fa1258 := fa1192.put hR1253 (show 16 ≠ 46 by decide)
  have fa1259 := fa1193.put hR1253 (show 17 ≠ 46 by decide)
  have fa1260 := fa1194.put hR1253 (show 18 ≠ 46 by decide)
  have fa1261 := fa1195.put hR1253 (show 19 ≠ 46 by decide)
  have fa1262 := fa1196.put hR1253 (show 20 ≠ 46 by decide)
  have fa1263 := fa1197.put hR1253 (show 21 ≠ 46 by decide)
  have fa1264 := fa1198.put hR1253 (show 22 ≠ 46 by decide)
  have fa1265 := fa1199.put hR1253 (show 26 ≠ 46 by decide)
  have fa1266 := fa1200.put hR1253 (show 27 ≠ 46 by decide)
  have fa1267 := fa1201.put hR1253 (show 28 ≠ 46 by decide)
  have fa1268 := fa1202.put hR1253 (show 31 ≠ 46 by decide)
  have fa1269 := fa1203.put hR1253 (show 34 ≠ 46 by decide)
  have fa1270 := fa1204.put hR1253 (show 35 ≠ 46 by decide)
  have fa1271 := fa1205.put hR1253 (show 36 ≠ 46 by decide)
  have fa1272 := fa1206.put hR1253 (show 39 ≠ 46 by decide)
  have fa1273 := fa1207.put hR1253 (show 42 ≠ 46 by decide)
  have fa1274 := fa1208.put hR1253 (show 43 ≠ 46 by decide)
  have fa1275 : Fa L1178 κ1179 ln1180 R1252 ow1184 I1182 a 46 14 240 := Fa.new hR1253 hq1185.2.1 hq1185.2.2.2.1 (fun _ => ⟨hq1185.2.2.2.2.1, hq1185.2.2.2.2.2.1⟩)
  refine a_wide (k := 21) (n := 4436) (Nat.le_of_ble_eq_true rfl) (Nat.le_of_ble_eq_true rfl) ?_
  refine a_vret B K1186 ⟨ow1184, md1254, ⟨fun k q hq h9 => ?_, fun h => absurd (hk1211.symm.trans h) (by decide), fun h => absurd (hk1211.symm.trans h) (by decide)⟩, fun j => ?_, fun h => absurd (hk1211.symm.trans h) (by decide), fun k2 h2 => absurd h2 (by rw [hk1211]; unfold own_; omega)⟩ dX12_init_188
  · rw [hk1211] at hq
    match k, hq with
    | 0, hq => obtain rfl := Option.some.inj (show some (99, 0) = some q from hq); exact absurd h9 (by decide)
    | 1, hq => obtain rfl := Option.some.inj (show some (14, 940) = some q from hq); exact fa1255
    | 2, hq => obtain rfl := Option.some.inj (show some (99, 0) = some q from hq); exact absurd h9 (by decide)
    | 3, hq => obtain rfl := Option.some.inj (show some (99, 0) = some q from hq); exact absurd h9 (by decide)
    | 4, hq => obtain rfl := Option.some.inj (show some (99, 0) = some q from hq); exact absurd h9 (by decide)
    | 5, hq => obtain rfl := Option.some.inj (show some (99, 0) = some q from hq); exact absurd h9 (by decide)
    | 6, hq => obtain rfl := Option.some.inj (show some (99, 0) = some q from hq); exact absurd h9 (by decide)
    | 7, hq => obtain rfl := Option.some.inj (show some (99, 0) = some q from hq); exact absurd h9 (by decide)
    | 8, hq => obtain rfl := Option.some.inj (show some (99, 0) = some q from hq); exact absurd h9 (by decide)
    | 9, hq => obtain rfl := Option.some.inj (show some (99, 0) = some q from hq); exact absurd h9 (by decide)
    | 10, hq => obtain rfl := Option.some.inj (show some (99, 0) = some q from hq); exact absurd h9 (by decide)
    | 11, hq => obtain rfl := Option.some.inj (show some (99, 0) = some q from hq); exact absurd h9 (by decide)
    | 12, hq => obtain rfl := Option.some.inj (show some (99, 0) = some q from hq); exact absurd h9 (by decide)
    | 13, hq => obtain rfl := Option.some.inj (show some (99, 0) = some q from hq); exact absurd h9 (by decide)
    | 14, hq => obtain rfl := Option.some.inj (show some (14, 389) = some q from hq); exact fa1256
    | 15, hq => obtain rfl := Option.some.inj (show some (14, 72) = some q from hq); exact fa1257
    | 16, hq => obtain rfl := Option.some.inj (show some (14, 778) = some q from hq); exact fa1258
    | 17, hq => obtain rfl := Option.some.inj (show some (14, 600) = some q from hq); exact fa1259
    | 18, hq => obtain rfl := Option.some.inj (show some (14, 75) = some q from hq); exact fa1260
    | 19, hq => obtain rfl := Option.some.inj (show some (15, 13) = some q from hq); exact fa1261
    | 20, hq => obtain rfl := Option.some.inj (show some (15, 13) = some q from hq); exact fa1262
    | 21, hq => obtain rfl := Option.some.inj (show some (15, 26) = some q from hq); exact fa1263
    | 22, hq => obtain rfl := Option.some.inj (show some (16, 2) = some q from hq); exact fa1264
    | 23, hq => obtain rfl := Option.some.inj (show some (99, 0) = some q from hq); exact absurd h9 (by decide)
    | 24, hq => obtain rfl := Option.some.inj (show some (99, 0) = some q from hq); exact absurd h9 (by decide)
    | 25, hq => obtain rfl := Option.some.inj (show some (99, 0) = some q from hq); exact absurd h9 (by decide)
    | 26, hq => obtain rfl := Option.some.inj (show some (14, 7) = some q from hq); exact fa1265
    | 27, hq => obtain rfl := Option.some.inj (show some (14, 7) = some q from hq); exact fa1266
    | 28, hq => obtain rfl := Option.some.inj (show some (14, 525) = some q from hq); exact fa1267
    | 29, hq => obtain rfl := Option.some.inj (show some (99, 0) = some q from hq); exact absurd h9 (by decide)
    | 30, hq => obtain rfl := Option.some.inj (show some (99, 0) = some q from hq); exact absurd h9 (by decide)
    | 31, hq => obtain rfl := Option.some.inj (show some (14, 7) = some q from hq); exact fa1268
    | 32, hq => obtain rfl := Option.some.inj (show some (99, 0) = some q from hq); exact absurd h9 (by decide)
    | 33, hq => obtain rfl := Option.some.inj (show some (99, 0) = some q from hq); exact absurd h9 (by decide)
    | 34, hq => obtain rfl := Option.some.inj (show some (16, 500) = some q from hq); exact fa1269
    | 35, hq => obtain rfl := Option.some.inj (show some (14, 7) = some q from hq); exact fa1270
    | 36, hq => obtain rfl := Option.some.inj (show some (14, 7) = some q from hq); exact fa1271
    | 37, hq => obtain rfl := Option.some.inj (show some (99, 0) = some q from hq); exact absurd h9 (by decide)
    | 38, hq => obtain rfl := Option.some.inj (show some (99, 0) = some q from hq); exact absurd h9 (by decide)
    | 39, hq => obtain rfl := Option.some.inj (show some (14, 64) = some q from hq); exact fa1272
    | 40, hq => obtain rfl := Option.some.inj (show some (99, 0) = some q from hq); exact absurd h9 (by decide)
    | 41, hq => obtain rfl := Option.some.inj (show some (99, 0) = some q from hq); exact absurd h9 (by decide)
    | 42, hq => obtain rfl := Option.some.inj (show some (14, 160) = some q from hq); exact fa1273
    | 43, hq => obtain rfl := Option.some.inj (show some (14, 4) = some q from hq); exact fa1274
    | 44, hq => obtain rfl := Option.some.inj (show some (99, 0) = some q from hq); exact absurd h9 (by decide)
    | 45, hq => obtain rfl := Option.some.inj (show some (99, 0) = some q from hq); exact absurd h9 (by decide)
    | 46, hq => obtain rfl := Option.some.inj (show some (14, 240) = some q from hq); exact fa1275
    | k + 47, hq => exact absurd hq (by simp [rt_])
  · rw [z1209 j, hk1211]; by_cases h32 : j = 32 <;>  by_cases h33 : j = 33 <;> simp_all [fv_]
set_option maxRecDepth 100000 in
set_option maxHeartbeats 4000000 in
theorem i_1 {l : Launch} {D : va_G} {cy : Nat → ClassId} {L : List Nat} {κ ln : Nat → Nat} {R : Nat → Nat → Option Nat} {I : Nat → Nat → Int32} {J : Nat → Nat → Int64} {ow : Nat → Nat × Nat} {a : Nat} (ha : a ∈ L) (hk : κ a = 1) (hz : ∀ j, I a j = 0) {tb : Nat} (htbL : tb ∈ L) (htbk : κ tb = 8) : CtN l yX1_init cX1_init 2 { frames := 1, cells := 6, slots := 76, locals := 60 } 6 76 D cy L κ ln R I J En_ [.ref a, .ref tb] (Pi_ a L κ ln R ow I J) := by
  refine CtN.of (by decide +kernel) (Nat.le_of_ble_eq_true rfl) ?_
  intro p e s m below meth c B K hN
  have C := B.1
  have hin : meth.name = "<init>" := B.2.2.2
  have hA : ∀ q, s.heap.size ≤ q → AN_ L s.heap.size q := fun q h => Or.inr h
  refine g_lo (is := [0, 1]) (lo2 := [(0, .ref a), (1, .ref tb)]) rfl ?_
  refine g_aload_n C 0 dX1_init_0 rfl rfl ?_
  refine a_obj C oi_1_3 (Nat.le_of_ble_eq_true rfl) (Nat.le_of_ble_eq_true rfl) dX1_init_1 ?_
  refine g_aload_n C 0 dX1_init_4 rfl rfl ?_
  refine g_bipush C (v := 6) dX1_init_5 (by decide) ?_
  refine a_newI (ow := ow) C K hA (a, 1) 6 (by decide) (by decide) (by decide) ar_int ⟨Nat.le_of_ble_eq_true rfl, Nat.le_of_ble_eq_true rfl⟩ dX1_init_7 (fun q1 L2 κ3 ln4 R5 I6 J7 ow8 hq9 K10 => ?_)
  have hE11 := hq9.2.2.2.2.2.2.2.2
  have md12 := (Md.rf : Md a L κ ln R ow I J L κ ln R ow I J).ex hE11 (hq9.gd (by decide))
  have z13 : ∀ j, I6 a j = 0 := fun j => ((hE11 a ha).2.2.2.2.1 j).trans (hz j)
  have hl14 := (hE11 a ha).1
  have hk15 := ((hE11 a ha).2.1).trans hk
  have hl16 := (hE11 tb htbL).1
  have hk17 := ((hE11 tb htbL).2.1).trans htbk
  refine a_putR C K10 hl14 hk15 f_1_9 p_1_1 hin rfl rfl rfl dX1_init_9 (fun R18 hR19 => ?_)
  have md20 := md12.putR ha hR19
  have fa21 : Fa L2 κ3 ln4 R18 ow8 I6 a 1 14 6 := Fa.new hR19 hq9.2.1 hq9.2.2.2.1 (fun _ => ⟨hq9.2.2.2.2.1, hq9.2.2.2.2.2.1⟩)
  refine g_aload_n C 0 dX1_init_12 rfl rfl ?_
  refine g_bipush C (v := 42) dX1_init_13 (by decide) ?_
  refine a_newI (ow := ow8) C K10 hA (a, 2) 42 (by decide) (by decide) (by decide) ar_int ⟨Nat.le_of_ble_eq_true rfl, Nat.le_of_ble_eq_true rfl⟩ dX1_init_15 (fun q22 L23 κ24 ln25 R26 I27 J28 ow29 hq30 K31 => ?_)
  have hE32 := hq30.2.2.2.2.2.2.2.2
  have md33 := md20.ex hE32 (hq30.gd (by decide))
  have fa34 := fa21.ex hl14 hE32
  have z35 : ∀ j, I27 a j = 0 := fun j => ((hE32 a hl14).2.2.2.2.1 j).trans (z13 j)
  have hl36 := (hE32 a hl14).1
  have hk37 := ((hE32 a hl14).2.1).trans hk15
  have hl38 := (hE32 tb hl16).1
  have hk39 := ((hE32 tb hl16).2.1).trans hk17
  have hl40 := (hE32 q1 hq9.2.1).1
  have hk41 := ((hE32 q1 hq9.2.1).2.1).trans hq9.2.2.2.1
  refine a_putR C K31 hl36 hk37 f_1_15 p_1_2 hin rfl rfl rfl dX1_init_17 (fun R42 hR43 => ?_)
  have md44 := md33.putR ha hR43
  have fa45 := fa34.put hR43 (show 1 ≠ 2 by decide)
  have fa46 : Fa L23 κ24 ln25 R42 ow29 I27 a 2 14 42 := Fa.new hR43 hq30.2.1 hq30.2.2.2.1 (fun _ => ⟨hq30.2.2.2.2.1, hq30.2.2.2.2.2.1⟩)
  refine g_aload_n C 0 dX1_init_20 rfl rfl ?_
  refine g_bipush C (v := 7) dX1_init_21 (by decide) ?_
  refine a_newI (ow := ow29) C K31 hA (a, 3) 7 (by decide) (by decide) (by decide) ar_int ⟨Nat.le_of_ble_eq_true rfl, Nat.le_of_ble_eq_true rfl⟩ dX1_init_23 (fun q47 L48 κ49 ln50 R51 I52 J53 ow54 hq55 K56 => ?_)
  have hE57 := hq55.2.2.2.2.2.2.2.2
  have md58 := md44.ex hE57 (hq55.gd (by decide))
  have fa59 := fa45.ex hl36 hE57
  have fa60 := fa46.ex hl36 hE57
  have z61 : ∀ j, I52 a j = 0 := fun j => ((hE57 a hl36).2.2.2.2.1 j).trans (z35 j)
  have hl62 := (hE57 a hl36).1
  have hk63 := ((hE57 a hl36).2.1).trans hk37
  have hl64 := (hE57 tb hl38).1
  have hk65 := ((hE57 tb hl38).2.1).trans hk39
  have hl66 := (hE57 q1 hl40).1
  have hk67 := ((hE57 q1 hl40).2.1).trans hk41
  have hl68 := (hE57 q22 hq30.2.1).1
  have hk69 := ((hE57 q22 hq30.2.1).2.1).trans hq30.2.2.2.1
  refine a_putR C K56 hl62 hk63 f_1_18 p_1_3 hin rfl rfl rfl dX1_init_25 (fun R70 hR71 => ?_)
  have md72 := md58.putR ha hR71
  have fa73 := fa59.put hR71 (show 1 ≠ 3 by decide)
  have fa74 := fa60.put hR71 (show 2 ≠ 3 by decide)
  have fa75 : Fa L48 κ49 ln50 R70 ow54 I52 a 3 14 7 := Fa.new hR71 hq55.2.1 hq55.2.2.2.1 (fun _ => ⟨hq55.2.2.2.2.1, hq55.2.2.2.2.2.1⟩)
  refine g_aload_n C 0 dX1_init_28 rfl rfl ?_
  refine g_bipush C (v := 7) dX1_init_29 (by decide) ?_
  refine a_newI (ow := ow54) C K56 hA (a, 4) 7 (by decide) (by decide) (by decide) ar_int ⟨Nat.le_of_ble_eq_true rfl, Nat.le_of_ble_eq_true rfl⟩ dX1_init_31 (fun q76 L77 κ78 ln79 R80 I81 J82 ow83 hq84 K85 => ?_)
  have hE86 := hq84.2.2.2.2.2.2.2.2
  have md87 := md72.ex hE86 (hq84.gd (by decide))
  have fa88 := fa73.ex hl62 hE86
  have fa89 := fa74.ex hl62 hE86
  have fa90 := fa75.ex hl62 hE86
  have z91 : ∀ j, I81 a j = 0 := fun j => ((hE86 a hl62).2.2.2.2.1 j).trans (z61 j)
  have hl92 := (hE86 a hl62).1
  have hk93 := ((hE86 a hl62).2.1).trans hk63
  have hl94 := (hE86 tb hl64).1
  have hk95 := ((hE86 tb hl64).2.1).trans hk65
  have hl96 := (hE86 q1 hl66).1
  have hk97 := ((hE86 q1 hl66).2.1).trans hk67
  have hl98 := (hE86 q22 hl68).1
  have hk99 := ((hE86 q22 hl68).2.1).trans hk69
  have hl100 := (hE86 q47 hq55.2.1).1
  have hk101 := ((hE86 q47 hq55.2.1).2.1).trans hq55.2.2.2.1
  refine a_putR C K85 hl92 hk93 f_1_21 p_1_4 hin rfl rfl rfl dX1_init_33 (fun R102 hR103 => ?_)
  have md104 := md87.putR ha hR103
  have fa105 := fa88.put hR103 (show 1 ≠ 4 by decide)
  have fa106 := fa89.put hR103 (show 2 ≠ 4 by decide)
  have fa107 := fa90.put hR103 (show 3 ≠ 4 by decide)
  have fa108 : Fa L77 κ78 ln79 R102 ow83 I81 a 4 14 7 := Fa.new hR103 hq84.2.1 hq84.2.2.2.1 (fun _ => ⟨hq84.2.2.2.2.1, hq84.2.2.2.2.2.1⟩)
  refine g_aload_n C 0 dX1_init_36 rfl rfl ?_
  refine g_bipush C (v := 7) dX1_init_37 (by decide) ?_
  refine a_newI (ow := ow83) C K85 hA (a, 5) 7 (by decide) (by decide) (by decide) ar_int ⟨Nat.le_of_ble_eq_true rfl, Nat.le_of_ble_eq_true rfl⟩ dX1_init_39 (fun q109 L110 κ111 ln112 R113 I114 J115 ow116 hq117 K118 => ?_)
  have hE119 := hq117.2.2.2.2.2.2.2.2
  have md120 := md104.ex hE119 (hq117.gd (by decide))
  have fa121 := fa105.ex hl92 hE119
  have fa122 := fa106.ex hl92 hE119
  have fa123 := fa107.ex hl92 hE119
  have fa124 := fa108.ex hl92 hE119
  have z125 : ∀ j, I114 a j = 0 := fun j => ((hE119 a hl92).2.2.2.2.1 j).trans (z91 j)
  have hl126 := (hE119 a hl92).1
  have hk127 := ((hE119 a hl92).2.1).trans hk93
  have hl128 := (hE119 tb hl94).1
  have hk129 := ((hE119 tb hl94).2.1).trans hk95
  have hl130 := (hE119 q1 hl96).1
  have hk131 := ((hE119 q1 hl96).2.1).trans hk97
  have hl132 := (hE119 q22 hl98).1
  have hk133 := ((hE119 q22 hl98).2.1).trans hk99
  have hl134 := (hE119 q47 hl100).1
  have hk135 := ((hE119 q47 hl100).2.1).trans hk101
  have hl136 := (hE119 q76 hq84.2.1).1
  have hk137 := ((hE119 q76 hq84.2.1).2.1).trans hq84.2.2.2.1
  refine a_putR C K118 hl126 hk127 f_1_24 p_1_5 hin rfl rfl rfl dX1_init_41 (fun R138 hR139 => ?_)
  have md140 := md120.putR ha hR139
  have fa141 := fa121.put hR139 (show 1 ≠ 5 by decide)
  have fa142 := fa122.put hR139 (show 2 ≠ 5 by decide)
  have fa143 := fa123.put hR139 (show 3 ≠ 5 by decide)
  have fa144 := fa124.put hR139 (show 4 ≠ 5 by decide)
  have fa145 : Fa L110 κ111 ln112 R138 ow116 I114 a 5 14 7 := Fa.new hR139 hq117.2.1 hq117.2.2.2.1 (fun _ => ⟨hq117.2.2.2.2.1, hq117.2.2.2.2.2.1⟩)
  refine g_aload_n C 0 dX1_init_44 rfl rfl ?_
  refine g_bipush C (v := 7) dX1_init_45 (by decide) ?_
  refine a_newI (ow := ow116) C K118 hA (a, 6) 7 (by decide) (by decide) (by decide) ar_int ⟨Nat.le_of_ble_eq_true rfl, Nat.le_of_ble_eq_true rfl⟩ dX1_init_47 (fun q146 L147 κ148 ln149 R150 I151 J152 ow153 hq154 K155 => ?_)
  have hE156 := hq154.2.2.2.2.2.2.2.2
  have md157 := md140.ex hE156 (hq154.gd (by decide))
  have fa158 := fa141.ex hl126 hE156
  have fa159 := fa142.ex hl126 hE156
  have fa160 := fa143.ex hl126 hE156
  have fa161 := fa144.ex hl126 hE156
  have fa162 := fa145.ex hl126 hE156
  have z163 : ∀ j, I151 a j = 0 := fun j => ((hE156 a hl126).2.2.2.2.1 j).trans (z125 j)
  have hl164 := (hE156 a hl126).1
  have hk165 := ((hE156 a hl126).2.1).trans hk127
  have hl166 := (hE156 tb hl128).1
  have hk167 := ((hE156 tb hl128).2.1).trans hk129
  have hl168 := (hE156 q1 hl130).1
  have hk169 := ((hE156 q1 hl130).2.1).trans hk131
  have hl170 := (hE156 q22 hl132).1
  have hk171 := ((hE156 q22 hl132).2.1).trans hk133
  have hl172 := (hE156 q47 hl134).1
  have hk173 := ((hE156 q47 hl134).2.1).trans hk135
  have hl174 := (hE156 q76 hl136).1
  have hk175 := ((hE156 q76 hl136).2.1).trans hk137
  have hl176 := (hE156 q109 hq117.2.1).1
  have hk177 := ((hE156 q109 hq117.2.1).2.1).trans hq117.2.2.2.1
  refine a_putR C K155 hl164 hk165 f_1_27 p_1_6 hin rfl rfl rfl dX1_init_49 (fun R178 hR179 => ?_)
  have md180 := md157.putR ha hR179
  have fa181 := fa158.put hR179 (show 1 ≠ 6 by decide)
  have fa182 := fa159.put hR179 (show 2 ≠ 6 by decide)
  have fa183 := fa160.put hR179 (show 3 ≠ 6 by decide)
  have fa184 := fa161.put hR179 (show 4 ≠ 6 by decide)
  have fa185 := fa162.put hR179 (show 5 ≠ 6 by decide)
  have fa186 : Fa L147 κ148 ln149 R178 ow153 I151 a 6 14 7 := Fa.new hR179 hq154.2.1 hq154.2.2.2.1 (fun _ => ⟨hq154.2.2.2.2.1, hq154.2.2.2.2.2.1⟩)
  refine g_aload_n C 0 dX1_init_52 rfl rfl ?_
  refine g_iconst C (v := 0) dX1_init_53 (by decide) ?_
  refine h_putI C K155 hl164 hk165 f_1_30 p_1_7 dX1_init_54 (fun I187 hI188 => ?_)
  have md189 := md180.putI ha hI188
  have z190 : ∀ j, I187 a j = 0 := fun j => by rw [hI188]; by_cases h : j = 7 <;> simp [u2_, h, z163]
  have fa191 := fa181.putI (I3 := I187)
  have fa192 := fa182.putI (I3 := I187)
  have fa193 := fa183.putI (I3 := I187)
  have fa194 := fa184.putI (I3 := I187)
  have fa195 := fa185.putI (I3 := I187)
  have fa196 := fa186.putI (I3 := I187)
  refine g_aload_n C 0 dX1_init_57 rfl rfl ?_
  refine g_iconst C (v := 0) dX1_init_58 (by decide) ?_
  refine h_putI C K155 hl164 hk165 f_1_34 p_1_8 dX1_init_59 (fun I197 hI198 => ?_)
  have md199 := md189.putI ha hI198
  have z200 : ∀ j, I197 a j = 0 := fun j => by rw [hI198]; by_cases h : j = 8 <;> simp [u2_, h, z190]
  have fa201 := fa191.putI (I3 := I197)
  have fa202 := fa192.putI (I3 := I197)
  have fa203 := fa193.putI (I3 := I197)
  have fa204 := fa194.putI (I3 := I197)
  have fa205 := fa195.putI (I3 := I197)
  have fa206 := fa196.putI (I3 := I197)
  refine g_aload_n C 0 dX1_init_62 rfl rfl ?_
  refine g_iconst C (v := 0) dX1_init_63 (by decide) ?_
  refine h_putI C K155 hl164 hk165 f_1_37 p_1_9 dX1_init_64 (fun I207 hI208 => ?_)
  have md209 := md199.putI ha hI208
  have z210 : ∀ j, I207 a j = 0 := fun j => by rw [hI208]; by_cases h : j = 9 <;> simp [u2_, h, z200]
  have fa211 := fa201.putI (I3 := I207)
  have fa212 := fa202.putI (I3 := I207)
  have fa213 := fa203.putI (I3 := I207)
  have fa214 := fa204.putI (I3 := I207)
  have fa215 := fa205.putI (I3 := I207)
  have fa216 := fa206.putI (I3 := I207)
  refine g_aload_n C 0 dX1_init_67 rfl rfl ?_
  refine g_iconst C (v := 0) dX1_init_68 (by decide) ?_
  refine h_putI C K155 hl164 hk165 f_1_40 p_1_10 dX1_init_69 (fun I217 hI218 => ?_)
  have md219 := md209.putI ha hI218
  have z220 : ∀ j, I217 a j = 0 := fun j => by rw [hI218]; by_cases h : j = 10 <;> simp [u2_, h, z210]
  have fa221 := fa211.putI (I3 := I217)
  have fa222 := fa212.putI (I3 := I217)
  have fa223 := fa213.putI (I3 := I217)
  have fa224 := fa214.putI (I3 := I217)
  have fa225 := fa215.putI (I3 := I217)
  have fa226 := fa216.putI (I3 := I217)
  refine g_aload_n C 0 dX1_init_72 rfl rfl ?_
  refine g_iconst C (v := 0) dX1_init_73 (by decide) ?_
  refine h_putI C K155 hl164 hk165 f_1_43 p_1_11 dX1_init_74 (fun I227 hI228 => ?_)
  have md229 := md219.putI ha hI228
  have z230 : ∀ j, I227 a j = 0 := fun j => by rw [hI228]; by_cases h : j = 11 <;> simp [u2_, h, z220]
  have fa231 := fa221.putI (I3 := I227)
  have fa232 := fa222.putI (I3 := I227)
  have fa233 := fa223.putI (I3 := I227)
  have fa234 := fa224.putI (I3 := I227)
  have fa235 := fa225.putI (I3 := I227)
  have fa236 := fa226.putI (I3 := I227)
  refine g_aload_n C 0 dX1_init_77 rfl rfl ?_
  refine g_iconst C (v := 0) dX1_init_78 (by decide) ?_
  refine h_putI C K155 hl164 hk165 f_1_46 p_1_12 dX1_init_79 (fun I237 hI238 => ?_)
  have md239 := md229.putI ha hI238
  have z240 : ∀ j, I237 a j = 0 := fun j => by rw [hI238]; by_cases h : j = 12 <;> simp [u2_, h, z230]
  have fa241 := fa231.putI (I3 := I237)
  have fa242 := fa232.putI (I3 := I237)
  have fa243 := fa233.putI (I3 := I237)
  have fa244 := fa234.putI (I3 := I237)
  have fa245 := fa235.putI (I3 := I237)
  have fa246 := fa236.putI (I3 := I237)
  refine g_aload_n C 0 dX1_init_82 rfl rfl ?_
  refine g_iconst C (v := 0) dX1_init_83 (by decide) ?_
  refine h_putI C K155 hl164 hk165 f_1_49 p_1_13 dX1_init_84 (fun I247 hI248 => ?_)
  have md249 := md239.putI ha hI248
  have z250 : ∀ j, I247 a j = 0 := fun j => by rw [hI248]; by_cases h : j = 13 <;> simp [u2_, h, z240]
  have fa251 := fa241.putI (I3 := I247)
  have fa252 := fa242.putI (I3 := I247)
  have fa253 := fa243.putI (I3 := I247)
  have fa254 := fa244.putI (I3 := I247)
  have fa255 := fa245.putI (I3 := I247)
  have fa256 := fa246.putI (I3 := I247)
  refine g_aload_n C 0 dX1_init_87 rfl rfl ?_
  refine g_aload_n C 1 dX1_init_88 rfl rfl ?_
  refine a_putR C K155 hl164 hk165 f_1_52 p_1_0 hin rfl rfl rfl dX1_init_89 (fun R257 hR258 => ?_)
  have md259 := md249.putR ha hR258
  have fa260 := fa251.put hR258 (show 1 ≠ 0 by decide)
  have fa261 := fa252.put hR258 (show 2 ≠ 0 by decide)
  have fa262 := fa253.put hR258 (show 3 ≠ 0 by decide)
  have fa263 := fa254.put hR258 (show 4 ≠ 0 by decide)
  have fa264 := fa255.put hR258 (show 5 ≠ 0 by decide)
  have fa265 := fa256.put hR258 (show 6 ≠ 0 by decide)
  have fa266 : Fa L147 κ148 ln149 R257 ow153 I247 a 0 8 0 := Fa.new hR258 hl166 hk167 (fun h => absurd h (by decide))
  refine a_wide (k := 6) (n := 76) (Nat.le_of_ble_eq_true rfl) (Nat.le_of_ble_eq_true rfl) ?_
  refine a_vret B K155 ⟨ow153, md259, ⟨fun k q hq h9 => ?_, fun h => absurd (hk165.symm.trans h) (by decide), fun h => absurd (hk165.symm.trans h) (by decide)⟩, fun j => ?_, fun h => absurd (hk165.symm.trans h) (by decide), fun k2 h2 => absurd h2 (by rw [hk165]; unfold own_; omega)⟩ dX1_init_92
  · rw [hk165] at hq
    match k, hq with
    | 0, hq => obtain rfl := Option.some.inj (show some (8, 0) = some q from hq); exact fa266
    | 1, hq => obtain rfl := Option.some.inj (show some (14, 6) = some q from hq); exact fa260
    | 2, hq => obtain rfl := Option.some.inj (show some (14, 42) = some q from hq); exact fa261
    | 3, hq => obtain rfl := Option.some.inj (show some (14, 7) = some q from hq); exact fa262
    | 4, hq => obtain rfl := Option.some.inj (show some (14, 7) = some q from hq); exact fa263
    | 5, hq => obtain rfl := Option.some.inj (show some (14, 7) = some q from hq); exact fa264
    | 6, hq => obtain rfl := Option.some.inj (show some (14, 7) = some q from hq); exact fa265
    | k + 7, hq => exact absurd hq (by simp [rt_])
  · rw [z250 j, hk165]; simp [fv_]
