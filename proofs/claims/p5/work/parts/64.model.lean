theorem dX12_dish_0 : decode cX12_dish 0 = .ok (.aload_n 0, 1) := by decide +kernel
theorem dX12_dish_1 : decode cX12_dish 1 = .ok (.iconst 0, 1) := by decide +kernel
theorem dX12_dish_2 : decode cX12_dish 2 = .ok (.putfield 82, 3) := by decide +kernel
theorem dX12_dish_5 : decode cX12_dish 5 = .ok (.aload_n 0, 1) := by decide +kernel
theorem dX12_dish_6 : decode cX12_dish 6 = .ok (.iload_n 1, 1) := by decide +kernel
theorem dX12_dish_7 : decode cX12_dish 7 = .ok (.invokevirtual 250, 3) := by decide +kernel
theorem dX12_dish_10 : decode cX12_dish 10 = .ok (.ifCond .ne 5, 3) := by decide +kernel
theorem dX12_dish_13 : decode cX12_dish 13 = .ok (.iconst (-1), 1) := by decide +kernel
theorem dX12_dish_14 : decode cX12_dish 14 = .ok (.ireturn, 1) := by decide +kernel
theorem dX12_dish_15 : decode cX12_dish 15 = .ok (.iconst 0, 1) := by decide +kernel
theorem dX12_dish_16 : decode cX12_dish 16 = .ok (.istore_n 3, 1) := by decide +kernel
theorem dX12_dish_17 : decode cX12_dish 17 = .ok (.iload_n 2, 1) := by decide +kernel
theorem dX12_dish_18 : decode cX12_dish 18 = .ok (.tableswitch 78 0 2 #[26, 36, 46], 26) := by decide +kernel
theorem dX12_dish_44 : decode cX12_dish 44 = .ok (.aload_n 0, 1) := by decide +kernel
theorem dX12_dish_45 : decode cX12_dish 45 = .ok (.getfield 13, 3) := by decide +kernel
theorem dX12_dish_48 : decode cX12_dish 48 = .ok (.bipush 78, 2) := by decide +kernel
theorem dX12_dish_50 : decode cX12_dish 50 = .ok (.iload_n 1, 1) := by decide +kernel
theorem dX12_dish_51 : decode cX12_dish 51 = .ok (.iadd, 1) := by decide +kernel
theorem dX12_dish_52 : decode cX12_dish 52 = .ok (.iaload, 1) := by decide +kernel
theorem dX12_dish_53 : decode cX12_dish 53 = .ok (.ireturn, 1) := by decide +kernel
theorem dX12_dish_54 : decode cX12_dish 54 = .ok (.aload_n 0, 1) := by decide +kernel
theorem dX12_dish_55 : decode cX12_dish 55 = .ok (.getfield 13, 3) := by decide +kernel
theorem dX12_dish_58 : decode cX12_dish 58 = .ok (.bipush 24, 2) := by decide +kernel
theorem dX12_dish_60 : decode cX12_dish 60 = .ok (.iload_n 1, 1) := by decide +kernel
theorem dX12_dish_61 : decode cX12_dish 61 = .ok (.iadd, 1) := by decide +kernel
theorem dX12_dish_62 : decode cX12_dish 62 = .ok (.iaload, 1) := by decide +kernel
theorem dX12_dish_63 : decode cX12_dish 63 = .ok (.ireturn, 1) := by decide +kernel
theorem dX12_dish_64 : decode cX12_dish 64 = .ok (.iconst 0, 1) := by decide +kernel
theorem dX12_dish_65 : decode cX12_dish 65 = .ok (.istore 4, 2) := by decide +kernel
theorem dX12_dish_67 : decode cX12_dish 67 = .ok (.iload 4, 2) := by decide +kernel
theorem dX12_dish_69 : decode cX12_dish 69 = .ok (.aload_n 0, 1) := by decide +kernel
theorem dX12_dish_70 : decode cX12_dish 70 = .ok (.getfield 13, 3) := by decide +kernel
theorem dX12_dish_73 : decode cX12_dish 73 = .ok (.iconst 0, 1) := by decide +kernel
theorem dX12_dish_74 : decode cX12_dish 74 = .ok (.iaload, 1) := by decide +kernel
theorem dX12_dish_75 : decode cX12_dish 75 = .ok (.if_icmp .ge 19, 3) := by decide +kernel
theorem dX12_dish_78 : decode cX12_dish 78 = .ok (.iload_n 3, 1) := by decide +kernel
theorem dX12_dish_79 : decode cX12_dish 79 = .ok (.aload_n 0, 1) := by decide +kernel
theorem dX12_dish_80 : decode cX12_dish 80 = .ok (.iload 4, 2) := by decide +kernel
theorem dX12_dish_82 : decode cX12_dish 82 = .ok (.iload_n 1, 1) := by decide +kernel
theorem dX12_dish_83 : decode cX12_dish 83 = .ok (.invokevirtual 234, 3) := by decide +kernel
theorem dX12_dish_86 : decode cX12_dish 86 = .ok (.iadd, 1) := by decide +kernel
theorem dX12_dish_87 : decode cX12_dish 87 = .ok (.istore_n 3, 1) := by decide +kernel
theorem dX12_dish_88 : decode cX12_dish 88 = .ok (.iinc 4 1, 3) := by decide +kernel
theorem dX12_dish_91 : decode cX12_dish 91 = .ok (.goto (-24), 3) := by decide +kernel
theorem dX12_dish_94 : decode cX12_dish 94 = .ok (.iload_n 3, 1) := by decide +kernel
theorem dX12_dish_95 : decode cX12_dish 95 = .ok (.ireturn, 1) := by decide +kernel
theorem dX12_dish_96 : decode cX12_dish 96 = .ok (.iconst (-1), 1) := by decide +kernel
theorem dX12_dish_97 : decode cX12_dish 97 = .ok (.ireturn, 1) := by decide +kernel
theorem dX12_fault_0 : decode cX12_fault 0 = .ok (.aload_n 0, 1) := by decide +kernel
theorem dX12_fault_1 : decode cX12_fault 1 = .ok (.iconst 0, 1) := by decide +kernel
theorem dX12_fault_2 : decode cX12_fault 2 = .ok (.putfield 82, 3) := by decide +kernel
theorem dX12_fault_5 : decode cX12_fault 5 = .ok (.aload_n 0, 1) := by decide +kernel
theorem dX12_fault_6 : decode cX12_fault 6 = .ok (.getfield 140, 3) := by decide +kernel
theorem dX12_fault_9 : decode cX12_fault 9 = .ok (.ireturn, 1) := by decide +kernel
theorem dX12_has_0 : decode cX12_has 0 = .ok (.iload_n 0, 1) := by decide +kernel
theorem dX12_has_1 : decode cX12_has 1 = .ok (.iload_n 1, 1) := by decide +kernel
theorem dX12_has_2 : decode cX12_has 2 = .ok (.ishr, 1) := by decide +kernel
theorem dX12_has_3 : decode cX12_has 3 = .ok (.iconst 1, 1) := by decide +kernel
theorem dX12_has_4 : decode cX12_has 4 = .ok (.iand, 1) := by decide +kernel
theorem dX12_has_5 : decode cX12_has 5 = .ok (.iconst 1, 1) := by decide +kernel
theorem dX12_has_6 : decode cX12_has 6 = .ok (.if_icmp .ne 7, 3) := by decide +kernel
theorem dX12_has_9 : decode cX12_has 9 = .ok (.iconst 1, 1) := by decide +kernel
theorem dX12_has_10 : decode cX12_has 10 = .ok (.goto 4, 3) := by decide +kernel
theorem dX12_has_13 : decode cX12_has 13 = .ok (.iconst 0, 1) := by decide +kernel
theorem dX12_has_14 : decode cX12_has 14 = .ok (.ireturn, 1) := by decide +kernel
theorem dX12_isDead_0 : decode cX12_isDead 0 = .ok (.aload_n 0, 1) := by decide +kernel
theorem dX12_isDead_1 : decode cX12_isDead 1 = .ok (.getfield 13, 3) := by decide +kernel
theorem dX12_isDead_4 : decode cX12_isDead 4 = .ok (.bipush 73, 2) := by decide +kernel
theorem dX12_isDead_6 : decode cX12_isDead 6 = .ok (.iaload, 1) := by decide +kernel
theorem dX12_isDead_7 : decode cX12_isDead 7 = .ok (.iload_n 1, 1) := by decide +kernel
theorem dX12_isDead_8 : decode cX12_isDead 8 = .ok (.invokestatic 231, 3) := by decide +kernel
theorem dX12_isDead_11 : decode cX12_isDead 11 = .ok (.ireturn, 1) := by decide +kernel
theorem dX12_isDish_0 : decode cX12_isDish 0 = .ok (.iload_n 1, 1) := by decide +kernel
theorem dX12_isDish_1 : decode cX12_isDish 1 = .ok (.iconst 0, 1) := by decide +kernel
theorem dX12_isDish_2 : decode cX12_isDish 2 = .ok (.aload_n 0, 1) := by decide +kernel
theorem dX12_isDish_3 : decode cX12_isDish 3 = .ok (.getfield 13, 3) := by decide +kernel
theorem dX12_isDish_6 : decode cX12_isDish 6 = .ok (.iconst 1, 1) := by decide +kernel
theorem dX12_isDish_7 : decode cX12_isDish 7 = .ok (.iaload, 1) := by decide +kernel
theorem dX12_isDish_8 : decode cX12_isDish 8 = .ok (.iconst 1, 1) := by decide +kernel
theorem dX12_isDish_9 : decode cX12_isDish 9 = .ok (.isub, 1) := by decide +kernel
theorem dX12_isDish_10 : decode cX12_isDish 10 = .ok (.invokestatic 149, 3) := by decide +kernel
theorem dX12_isDish_13 : decode cX12_isDish 13 = .ok (.ireturn, 1) := by decide +kernel
theorem dX12_isPerson_0 : decode cX12_isPerson 0 = .ok (.iload_n 1, 1) := by decide +kernel
theorem dX12_isPerson_1 : decode cX12_isPerson 1 = .ok (.iconst 0, 1) := by decide +kernel
theorem dX12_isPerson_2 : decode cX12_isPerson 2 = .ok (.aload_n 0, 1) := by decide +kernel
theorem dX12_isPerson_3 : decode cX12_isPerson 3 = .ok (.getfield 13, 3) := by decide +kernel
theorem dX12_isPerson_6 : decode cX12_isPerson 6 = .ok (.iconst 0, 1) := by decide +kernel
theorem dX12_isPerson_7 : decode cX12_isPerson 7 = .ok (.iaload, 1) := by decide +kernel
theorem dX12_isPerson_8 : decode cX12_isPerson 8 = .ok (.iconst 1, 1) := by decide +kernel
theorem dX12_isPerson_9 : decode cX12_isPerson 9 = .ok (.isub, 1) := by decide +kernel
theorem dX12_isPerson_10 : decode cX12_isPerson 10 = .ok (.invokestatic 149, 3) := by decide +kernel
theorem dX12_isPerson_13 : decode cX12_isPerson 13 = .ok (.ireturn, 1) := by decide +kernel
theorem dX12_onPlate_0 : decode cX12_onPlate 0 = .ok (.aload_n 0, 1) := by decide +kernel
theorem dX12_onPlate_1 : decode cX12_onPlate 1 = .ok (.getfield 13, 3) := by decide +kernel
theorem dX12_onPlate_4 : decode cX12_onPlate 4 = .ok (.bipush 105, 2) := by decide +kernel
theorem dX12_onPlate_6 : decode cX12_onPlate 6 = .ok (.bipush 6, 2) := by decide +kernel
theorem dX12_onPlate_8 : decode cX12_onPlate 8 = .ok (.iload_n 1, 1) := by decide +kernel
theorem dX12_onPlate_9 : decode cX12_onPlate 9 = .ok (.imul, 1) := by decide +kernel
theorem dX12_onPlate_10 : decode cX12_onPlate 10 = .ok (.iadd, 1) := by decide +kernel
theorem dX12_onPlate_11 : decode cX12_onPlate 11 = .ok (.iload_n 2, 1) := by decide +kernel
theorem dX12_onPlate_12 : decode cX12_onPlate 12 = .ok (.iadd, 1) := by decide +kernel
theorem dX12_onPlate_13 : decode cX12_onPlate 13 = .ok (.iaload, 1) := by decide +kernel
theorem dX12_onPlate_14 : decode cX12_onPlate 14 = .ok (.ireturn, 1) := by decide +kernel
theorem dX12_person_0 : decode cX12_person 0 = .ok (.aload_n 0, 1) := by decide +kernel
theorem dX12_person_1 : decode cX12_person 1 = .ok (.iconst 0, 1) := by decide +kernel
theorem dX12_person_2 : decode cX12_person 2 = .ok (.putfield 82, 3) := by decide +kernel
theorem dX12_person_5 : decode cX12_person 5 = .ok (.aload_n 0, 1) := by decide +kernel
theorem dX12_person_6 : decode cX12_person 6 = .ok (.iload_n 1, 1) := by decide +kernel
theorem dX12_person_7 : decode cX12_person 7 = .ok (.invokevirtual 238, 3) := by decide +kernel
theorem dX12_person_10 : decode cX12_person 10 = .ok (.ifCond .ne 8, 3) := by decide +kernel
theorem dX12_person_13 : decode cX12_person 13 = .ok (.aload_n 0, 1) := by decide +kernel
theorem dX12_person_14 : decode cX12_person 14 = .ok (.invokevirtual 241, 3) := by decide +kernel
theorem dX12_person_17 : decode cX12_person 17 = .ok (.ireturn, 1) := by decide +kernel
theorem dX12_person_18 : decode cX12_person 18 = .ok (.iconst 0, 1) := by decide +kernel
theorem dX12_person_19 : decode cX12_person 19 = .ok (.istore_n 3, 1) := by decide +kernel
theorem dX12_person_20 : decode cX12_person 20 = .ok (.iload_n 2, 1) := by decide +kernel
theorem dX12_person_21 : decode cX12_person 21 = .ok (.tableswitch 183 0 8 #[51, 60, 70, 84, 104, 114, 124, 134, 140], 51) := by decide +kernel
theorem dX12_person_72 : decode cX12_person 72 = .ok (.aload_n 0, 1) := by decide +kernel
theorem dX12_person_73 : decode cX12_person 73 = .ok (.getfield 13, 3) := by decide +kernel
theorem dX12_person_76 : decode cX12_person 76 = .ok (.iconst 4, 1) := by decide +kernel
theorem dX12_person_77 : decode cX12_person 77 = .ok (.iload_n 1, 1) := by decide +kernel
theorem dX12_person_78 : decode cX12_person 78 = .ok (.iadd, 1) := by decide +kernel
theorem dX12_person_79 : decode cX12_person 79 = .ok (.iaload, 1) := by decide +kernel
theorem dX12_person_80 : decode cX12_person 80 = .ok (.ireturn, 1) := by decide +kernel
theorem dX12_person_81 : decode cX12_person 81 = .ok (.aload_n 0, 1) := by decide +kernel
theorem dX12_person_82 : decode cX12_person 82 = .ok (.getfield 13, 3) := by decide +kernel
theorem dX12_person_85 : decode cX12_person 85 = .ok (.bipush 11, 2) := by decide +kernel
theorem dX12_person_87 : decode cX12_person 87 = .ok (.iload_n 1, 1) := by decide +kernel
theorem dX12_person_88 : decode cX12_person 88 = .ok (.iadd, 1) := by decide +kernel
theorem dX12_person_89 : decode cX12_person 89 = .ok (.iaload, 1) := by decide +kernel
theorem dX12_person_90 : decode cX12_person 90 = .ok (.ireturn, 1) := by decide +kernel
theorem dX12_person_91 : decode cX12_person 91 = .ok (.aload_n 0, 1) := by decide +kernel
theorem dX12_person_92 : decode cX12_person 92 = .ok (.iload_n 1, 1) := by decide +kernel
theorem dX12_person_93 : decode cX12_person 93 = .ok (.invokevirtual 244, 3) := by decide +kernel
theorem dX12_person_96 : decode cX12_person 96 = .ok (.ifCond .eq 7, 3) := by decide +kernel
theorem dX12_person_99 : decode cX12_person 99 = .ok (.iconst 1, 1) := by decide +kernel
theorem dX12_person_100 : decode cX12_person 100 = .ok (.goto 4, 3) := by decide +kernel
theorem dX12_person_103 : decode cX12_person 103 = .ok (.iconst 0, 1) := by decide +kernel
theorem dX12_person_104 : decode cX12_person 104 = .ok (.ireturn, 1) := by decide +kernel
theorem dX12_person_105 : decode cX12_person 105 = .ok (.aload_n 0, 1) := by decide +kernel
theorem dX12_person_106 : decode cX12_person 106 = .ok (.getfield 13, 3) := by decide +kernel
theorem dX12_person_109 : decode cX12_person 109 = .ok (.bipush 74, 2) := by decide +kernel
theorem dX12_person_111 : decode cX12_person 111 = .ok (.iaload, 1) := by decide +kernel
theorem dX12_person_112 : decode cX12_person 112 = .ok (.iload_n 1, 1) := by decide +kernel
theorem dX12_person_113 : decode cX12_person 113 = .ok (.invokestatic 231, 3) := by decide +kernel
theorem dX12_person_116 : decode cX12_person 116 = .ok (.ifCond .eq 7, 3) := by decide +kernel
theorem dX12_person_119 : decode cX12_person 119 = .ok (.iconst 1, 1) := by decide +kernel
theorem dX12_person_120 : decode cX12_person 120 = .ok (.goto 4, 3) := by decide +kernel
theorem dX12_person_123 : decode cX12_person 123 = .ok (.iconst 0, 1) := by decide +kernel
theorem dX12_person_124 : decode cX12_person 124 = .ok (.ireturn, 1) := by decide +kernel
theorem dX12_person_125 : decode cX12_person 125 = .ok (.aload_n 0, 1) := by decide +kernel
theorem dX12_person_126 : decode cX12_person 126 = .ok (.getfield 13, 3) := by decide +kernel
theorem dX12_person_129 : decode cX12_person 129 = .ok (.bipush 84, 2) := by decide +kernel
theorem dX12_person_131 : decode cX12_person 131 = .ok (.iload_n 1, 1) := by decide +kernel
theorem dX12_person_132 : decode cX12_person 132 = .ok (.iadd, 1) := by decide +kernel
theorem dX12_person_133 : decode cX12_person 133 = .ok (.iaload, 1) := by decide +kernel
theorem dX12_person_134 : decode cX12_person 134 = .ok (.ireturn, 1) := by decide +kernel
theorem dX12_person_135 : decode cX12_person 135 = .ok (.aload_n 0, 1) := by decide +kernel
theorem dX12_person_136 : decode cX12_person 136 = .ok (.getfield 13, 3) := by decide +kernel
theorem dX12_person_139 : decode cX12_person 139 = .ok (.bipush 91, 2) := by decide +kernel
theorem dX12_person_141 : decode cX12_person 141 = .ok (.iload_n 1, 1) := by decide +kernel
theorem dX12_person_142 : decode cX12_person 142 = .ok (.iadd, 1) := by decide +kernel
theorem dX12_person_143 : decode cX12_person 143 = .ok (.iaload, 1) := by decide +kernel
theorem dX12_person_144 : decode cX12_person 144 = .ok (.ireturn, 1) := by decide +kernel
theorem dX12_person_145 : decode cX12_person 145 = .ok (.aload_n 0, 1) := by decide +kernel
theorem dX12_person_146 : decode cX12_person 146 = .ok (.getfield 13, 3) := by decide +kernel
theorem dX12_person_149 : decode cX12_person 149 = .ok (.bipush 98, 2) := by decide +kernel
theorem dX12_person_151 : decode cX12_person 151 = .ok (.iload_n 1, 1) := by decide +kernel
theorem dX12_person_152 : decode cX12_person 152 = .ok (.iadd, 1) := by decide +kernel
theorem dX12_person_153 : decode cX12_person 153 = .ok (.iaload, 1) := by decide +kernel
theorem dX12_person_154 : decode cX12_person 154 = .ok (.ireturn, 1) := by decide +kernel
theorem dX12_person_155 : decode cX12_person 155 = .ok (.aload_n 0, 1) := by decide +kernel
theorem dX12_person_156 : decode cX12_person 156 = .ok (.iload_n 1, 1) := by decide +kernel
theorem dX12_person_157 : decode cX12_person 157 = .ok (.invokevirtual 247, 3) := by decide +kernel
theorem dX12_person_160 : decode cX12_person 160 = .ok (.ireturn, 1) := by decide +kernel
theorem dX12_person_161 : decode cX12_person 161 = .ok (.iconst 0, 1) := by decide +kernel
theorem dX12_person_162 : decode cX12_person 162 = .ok (.istore 4, 2) := by decide +kernel
theorem dX12_person_164 : decode cX12_person 164 = .ok (.iload 4, 2) := by decide +kernel
theorem dX12_person_166 : decode cX12_person 166 = .ok (.aload_n 0, 1) := by decide +kernel
theorem dX12_person_167 : decode cX12_person 167 = .ok (.getfield 13, 3) := by decide +kernel
theorem dX12_person_170 : decode cX12_person 170 = .ok (.iconst 0, 1) := by decide +kernel
theorem dX12_person_171 : decode cX12_person 171 = .ok (.iaload, 1) := by decide +kernel
theorem dX12_person_172 : decode cX12_person 172 = .ok (.if_icmp .ge 30, 3) := by decide +kernel
theorem dX12_person_175 : decode cX12_person 175 = .ok (.aload_n 0, 1) := by decide +kernel
theorem dX12_person_176 : decode cX12_person 176 = .ok (.getfield 13, 3) := by decide +kernel
theorem dX12_person_179 : decode cX12_person 179 = .ok (.bipush 11, 2) := by decide +kernel
theorem dX12_person_181 : decode cX12_person 181 = .ok (.iload 4, 2) := by decide +kernel
theorem dX12_person_183 : decode cX12_person 183 = .ok (.iadd, 1) := by decide +kernel
theorem dX12_person_184 : decode cX12_person 184 = .ok (.iaload, 1) := by decide +kernel
theorem dX12_person_185 : decode cX12_person 185 = .ok (.iload_n 1, 1) := by decide +kernel
theorem dX12_person_186 : decode cX12_person 186 = .ok (.if_icmp .ne 10, 3) := by decide +kernel
theorem dX12_person_189 : decode cX12_person 189 = .ok (.iload_n 3, 1) := by decide +kernel
theorem dX12_person_190 : decode cX12_person 190 = .ok (.iconst 1, 1) := by decide +kernel
theorem dX12_person_191 : decode cX12_person 191 = .ok (.iload 4, 2) := by decide +kernel
theorem dX12_person_193 : decode cX12_person 193 = .ok (.ishl, 1) := by decide +kernel
theorem dX12_person_194 : decode cX12_person 194 = .ok (.ior, 1) := by decide +kernel
theorem dX12_person_195 : decode cX12_person 195 = .ok (.istore_n 3, 1) := by decide +kernel
theorem dX12_person_196 : decode cX12_person 196 = .ok (.iinc 4 1, 3) := by decide +kernel
theorem dX12_person_199 : decode cX12_person 199 = .ok (.goto (-35), 3) := by decide +kernel
theorem dX12_person_202 : decode cX12_person 202 = .ok (.iload_n 3, 1) := by decide +kernel
theorem dX12_person_203 : decode cX12_person 203 = .ok (.ireturn, 1) := by decide +kernel
theorem dX12_person_204 : decode cX12_person 204 = .ok (.aload_n 0, 1) := by decide +kernel
theorem dX12_person_205 : decode cX12_person 205 = .ok (.invokevirtual 241, 3) := by decide +kernel
theorem dX12_person_208 : decode cX12_person 208 = .ok (.ireturn, 1) := by decide +kernel
theorem dX12_plate_0 : decode cX12_plate 0 = .ok (.aload_n 0, 1) := by decide +kernel
theorem dX12_plate_1 : decode cX12_plate 1 = .ok (.iconst 0, 1) := by decide +kernel
theorem dX12_plate_2 : decode cX12_plate 2 = .ok (.putfield 82, 3) := by decide +kernel
theorem dX12_plate_5 : decode cX12_plate 5 = .ok (.aload_n 0, 1) := by decide +kernel
theorem dX12_plate_6 : decode cX12_plate 6 = .ok (.iload_n 1, 1) := by decide +kernel
theorem dX12_plate_7 : decode cX12_plate 7 = .ok (.invokevirtual 238, 3) := by decide +kernel
theorem dX12_plate_10 : decode cX12_plate 10 = .ok (.ifCond .eq 20, 3) := by decide +kernel
theorem dX12_plate_13 : decode cX12_plate 13 = .ok (.aload_n 0, 1) := by decide +kernel
theorem dX12_plate_14 : decode cX12_plate 14 = .ok (.iload_n 2, 1) := by decide +kernel
theorem dX12_plate_15 : decode cX12_plate 15 = .ok (.invokevirtual 250, 3) := by decide +kernel
theorem dX12_plate_18 : decode cX12_plate 18 = .ok (.ifCond .eq 12, 3) := by decide +kernel
theorem dX12_plate_21 : decode cX12_plate 21 = .ok (.aload_n 0, 1) := by decide +kernel
theorem dX12_plate_22 : decode cX12_plate 22 = .ok (.iload_n 1, 1) := by decide +kernel
theorem dX12_plate_23 : decode cX12_plate 23 = .ok (.iload_n 2, 1) := by decide +kernel
theorem dX12_plate_24 : decode cX12_plate 24 = .ok (.invokevirtual 234, 3) := by decide +kernel
theorem dX12_plate_27 : decode cX12_plate 27 = .ok (.goto 4, 3) := by decide +kernel
theorem dX12_plate_30 : decode cX12_plate 30 = .ok (.iconst (-1), 1) := by decide +kernel
theorem dX12_plate_31 : decode cX12_plate 31 = .ok (.ireturn, 1) := by decide +kernel
theorem dX12_plateOf_0 : decode cX12_plateOf 0 = .ok (.iconst 0, 1) := by decide +kernel
theorem dX12_plateOf_1 : decode cX12_plateOf 1 = .ok (.istore_n 2, 1) := by decide +kernel
theorem dX12_plateOf_2 : decode cX12_plateOf 2 = .ok (.iconst 0, 1) := by decide +kernel
theorem dX12_plateOf_3 : decode cX12_plateOf 3 = .ok (.istore_n 3, 1) := by decide +kernel
theorem dX12_plateOf_4 : decode cX12_plateOf 4 = .ok (.iload_n 3, 1) := by decide +kernel
theorem dX12_plateOf_5 : decode cX12_plateOf 5 = .ok (.bipush 6, 2) := by decide +kernel
theorem dX12_plateOf_7 : decode cX12_plateOf 7 = .ok (.if_icmp .ge 18, 3) := by decide +kernel
theorem dX12_plateOf_10 : decode cX12_plateOf 10 = .ok (.iload_n 2, 1) := by decide +kernel
theorem dX12_plateOf_11 : decode cX12_plateOf 11 = .ok (.aload_n 0, 1) := by decide +kernel
theorem dX12_plateOf_12 : decode cX12_plateOf 12 = .ok (.iload_n 1, 1) := by decide +kernel
theorem dX12_plateOf_13 : decode cX12_plateOf 13 = .ok (.iload_n 3, 1) := by decide +kernel
theorem dX12_plateOf_14 : decode cX12_plateOf 14 = .ok (.invokevirtual 234, 3) := by decide +kernel
theorem dX12_plateOf_17 : decode cX12_plateOf 17 = .ok (.iadd, 1) := by decide +kernel
theorem dX12_plateOf_18 : decode cX12_plateOf 18 = .ok (.istore_n 2, 1) := by decide +kernel
theorem dX12_plateOf_19 : decode cX12_plateOf 19 = .ok (.iinc 3 1, 3) := by decide +kernel
theorem dX12_plateOf_22 : decode cX12_plateOf 22 = .ok (.goto (-18), 3) := by decide +kernel
theorem dX12_plateOf_25 : decode cX12_plateOf 25 = .ok (.iload_n 2, 1) := by decide +kernel
theorem dX12_plateOf_26 : decode cX12_plateOf 26 = .ok (.ireturn, 1) := by decide +kernel
theorem dX12_refuse_0 : decode cX12_refuse 0 = .ok (.aload_n 0, 1) := by decide +kernel
theorem dX12_refuse_1 : decode cX12_refuse 1 = .ok (.iconst 1, 1) := by decide +kernel
theorem dX12_refuse_2 : decode cX12_refuse 2 = .ok (.putfield 82, 3) := by decide +kernel
theorem dX12_refuse_5 : decode cX12_refuse 5 = .ok (.iconst 0, 1) := by decide +kernel
theorem dX12_refuse_6 : decode cX12_refuse 6 = .ok (.ireturn, 1) := by decide +kernel
theorem dX12_sumOf_0 : decode cX12_sumOf 0 = .ok (.iconst 0, 1) := by decide +kernel
theorem dX12_sumOf_1 : decode cX12_sumOf 1 = .ok (.istore_n 2, 1) := by decide +kernel
theorem dX12_sumOf_2 : decode cX12_sumOf 2 = .ok (.iconst 0, 1) := by decide +kernel
theorem dX12_sumOf_3 : decode cX12_sumOf 3 = .ok (.istore_n 3, 1) := by decide +kernel
theorem dX12_sumOf_4 : decode cX12_sumOf 4 = .ok (.iload_n 3, 1) := by decide +kernel
theorem dX12_sumOf_5 : decode cX12_sumOf 5 = .ok (.aload_n 0, 1) := by decide +kernel
theorem dX12_sumOf_6 : decode cX12_sumOf 6 = .ok (.getfield 13, 3) := by decide +kernel
theorem dX12_sumOf_9 : decode cX12_sumOf 9 = .ok (.iconst 0, 1) := by decide +kernel
theorem dX12_sumOf_10 : decode cX12_sumOf 10 = .ok (.iaload, 1) := by decide +kernel
theorem dX12_sumOf_11 : decode cX12_sumOf 11 = .ok (.if_icmp .ge 20, 3) := by decide +kernel
theorem dX12_sumOf_14 : decode cX12_sumOf 14 = .ok (.iload_n 2, 1) := by decide +kernel
theorem dX12_sumOf_15 : decode cX12_sumOf 15 = .ok (.aload_n 0, 1) := by decide +kernel
theorem dX12_sumOf_16 : decode cX12_sumOf 16 = .ok (.getfield 13, 3) := by decide +kernel
theorem dX12_sumOf_19 : decode cX12_sumOf 19 = .ok (.iload_n 1, 1) := by decide +kernel
theorem dX12_sumOf_20 : decode cX12_sumOf 20 = .ok (.iload_n 3, 1) := by decide +kernel
theorem dX12_sumOf_21 : decode cX12_sumOf 21 = .ok (.iadd, 1) := by decide +kernel
theorem dX12_sumOf_22 : decode cX12_sumOf 22 = .ok (.iaload, 1) := by decide +kernel
theorem dX12_sumOf_23 : decode cX12_sumOf 23 = .ok (.iadd, 1) := by decide +kernel
theorem dX12_sumOf_24 : decode cX12_sumOf 24 = .ok (.istore_n 2, 1) := by decide +kernel
theorem dX12_sumOf_25 : decode cX12_sumOf 25 = .ok (.iinc 3 1, 3) := by decide +kernel
theorem dX12_sumOf_28 : decode cX12_sumOf 28 = .ok (.goto (-24), 3) := by decide +kernel
theorem dX12_sumOf_31 : decode cX12_sumOf 31 = .ok (.iload_n 2, 1) := by decide +kernel
theorem dX12_sumOf_32 : decode cX12_sumOf 32 = .ok (.ireturn, 1) := by decide +kernel
theorem dX12_table_0 : decode cX12_table 0 = .ok (.aload_n 0, 1) := by decide +kernel
theorem dX12_table_1 : decode cX12_table 1 = .ok (.sipush 900, 3) := by decide +kernel
theorem dX12_table_4 : decode cX12_table 4 = .ok (.invokevirtual 216, 3) := by decide +kernel
theorem dX12_table_7 : decode cX12_table 7 = .ok (.iconst 0, 1) := by decide +kernel
theorem dX12_table_8 : decode cX12_table 8 = .ok (.istore_n 1, 1) := by decide +kernel
theorem dX12_table_9 : decode cX12_table 9 = .ok (.iload_n 1, 1) := by decide +kernel
theorem dX12_table_10 : decode cX12_table 10 = .ok (.bipush 72, 2) := by decide +kernel
theorem dX12_table_12 : decode cX12_table 12 = .ok (.if_icmp .ge 16, 3) := by decide +kernel
theorem dX12_table_15 : decode cX12_table 15 = .ok (.aload_n 0, 1) := by decide +kernel
theorem dX12_table_16 : decode cX12_table 16 = .ok (.getfield 16, 3) := by decide +kernel
theorem dX12_table_19 : decode cX12_table 19 = .ok (.iload_n 1, 1) := by decide +kernel
theorem dX12_table_20 : decode cX12_table 20 = .ok (.iconst 0, 1) := by decide +kernel
theorem dX12_table_21 : decode cX12_table 21 = .ok (.iastore, 1) := by decide +kernel
theorem dX12_table_22 : decode cX12_table 22 = .ok (.iinc 1 1, 3) := by decide +kernel
theorem dX12_table_25 : decode cX12_table 25 = .ok (.goto (-16), 3) := by decide +kernel
theorem dX12_table_28 : decode cX12_table 28 = .ok (.aload_n 0, 1) := by decide +kernel
theorem dX12_table_29 : decode cX12_table 29 = .ok (.iconst 0, 1) := by decide +kernel
theorem dX12_table_30 : decode cX12_table 30 = .ok (.putfield 197, 3) := by decide +kernel
theorem dX12_table_33 : decode cX12_table 33 = .ok (.aload_n 0, 1) := by decide +kernel
theorem dX12_table_34 : decode cX12_table 34 = .ok (.iconst 0, 1) := by decide +kernel
theorem dX12_table_35 : decode cX12_table 35 = .ok (.putfield 213, 3) := by decide +kernel
theorem dX12_table_38 : decode cX12_table 38 = .ok (.iconst 0, 1) := by decide +kernel
theorem dX12_table_39 : decode cX12_table 39 = .ok (.istore_n 1, 1) := by decide +kernel
theorem dX12_table_40 : decode cX12_table 40 = .ok (.aload_n 0, 1) := by decide +kernel
theorem dX12_table_41 : decode cX12_table 41 = .ok (.getfield 104, 3) := by decide +kernel
theorem dX12_table_44 : decode cX12_table 44 = .ok (.ifCond .eq 30, 3) := by decide +kernel
theorem dX12_table_47 : decode cX12_table 47 = .ok (.aload_n 0, 1) := by decide +kernel
theorem dX12_table_48 : decode cX12_table 48 = .ok (.invokevirtual 219, 3) := by decide +kernel
theorem dX12_table_51 : decode cX12_table 51 = .ok (.ifCond .eq 10, 3) := by decide +kernel
theorem dX12_table_54 : decode cX12_table 54 = .ok (.aload_n 0, 1) := by decide +kernel
theorem dX12_table_55 : decode cX12_table 55 = .ok (.invokevirtual 222, 3) := by decide +kernel
theorem dX12_table_58 : decode cX12_table 58 = .ok (.ifCond .ne 10, 3) := by decide +kernel
theorem dX12_table_61 : decode cX12_table 61 = .ok (.iconst (-1), 1) := by decide +kernel
theorem dX12_table_62 : decode cX12_table 62 = .ok (.aload_n 0, 1) := by decide +kernel
theorem dX12_table_63 : decode cX12_table 63 = .ok (.getfield 143, 3) := by decide +kernel
theorem dX12_table_66 : decode cX12_table 66 = .ok (.isub, 1) := by decide +kernel
theorem dX12_table_67 : decode cX12_table 67 = .ok (.ireturn, 1) := by decide +kernel
theorem dX12_table_68 : decode cX12_table 68 = .ok (.iinc 1 1, 3) := by decide +kernel
theorem dX12_table_71 : decode cX12_table 71 = .ok (.goto (-31), 3) := by decide +kernel
theorem dX12_table_74 : decode cX12_table 74 = .ok (.iconst 0, 1) := by decide +kernel
theorem dX12_table_75 : decode cX12_table 75 = .ok (.istore_n 2, 1) := by decide +kernel
theorem dX12_table_76 : decode cX12_table 76 = .ok (.iload_n 2, 1) := by decide +kernel
theorem dX12_table_77 : decode cX12_table 77 = .ok (.bipush 72, 2) := by decide +kernel
theorem dX12_table_79 : decode cX12_table 79 = .ok (.if_icmp .ge 21, 3) := by decide +kernel
theorem dX12_table_82 : decode cX12_table 82 = .ok (.aload_n 0, 1) := by decide +kernel
theorem dX12_table_83 : decode cX12_table 83 = .ok (.getfield 13, 3) := by decide +kernel
theorem dX12_table_86 : decode cX12_table 86 = .ok (.iload_n 2, 1) := by decide +kernel
theorem dX12_table_87 : decode cX12_table 87 = .ok (.aload_n 0, 1) := by decide +kernel
theorem dX12_table_88 : decode cX12_table 88 = .ok (.getfield 16, 3) := by decide +kernel
theorem dX12_table_91 : decode cX12_table 91 = .ok (.iload_n 2, 1) := by decide +kernel
theorem dX12_table_92 : decode cX12_table 92 = .ok (.iaload, 1) := by decide +kernel
theorem dX12_table_93 : decode cX12_table 93 = .ok (.iastore, 1) := by decide +kernel
theorem dX12_table_94 : decode cX12_table 94 = .ok (.iinc 2 1, 3) := by decide +kernel
theorem dX12_table_97 : decode cX12_table 97 = .ok (.goto (-21), 3) := by decide +kernel
theorem dX12_table_100 : decode cX12_table 100 = .ok (.iconst 0, 1) := by decide +kernel
theorem dX12_table_101 : decode cX12_table 101 = .ok (.istore_n 2, 1) := by decide +kernel
theorem dX12_table_102 : decode cX12_table 102 = .ok (.iload_n 2, 1) := by decide +kernel
theorem dX12_table_103 : decode cX12_table 103 = .ok (.bipush 13, 2) := by decide +kernel
theorem dX12_table_105 : decode cX12_table 105 = .ok (.if_icmp .ge 21, 3) := by decide +kernel
theorem dX12_table_108 : decode cX12_table 108 = .ok (.aload_n 0, 1) := by decide +kernel
theorem dX12_table_109 : decode cX12_table 109 = .ok (.getfield 28, 3) := by decide +kernel
theorem dX12_table_112 : decode cX12_table 112 = .ok (.iload_n 2, 1) := by decide +kernel
theorem dX12_table_113 : decode cX12_table 113 = .ok (.aload_n 0, 1) := by decide +kernel
theorem dX12_table_114 : decode cX12_table 114 = .ok (.getfield 32, 3) := by decide +kernel
theorem dX12_table_117 : decode cX12_table 117 = .ok (.iload_n 2, 1) := by decide +kernel
theorem dX12_table_118 : decode cX12_table 118 = .ok (.laload, 1) := by decide +kernel
theorem dX12_table_119 : decode cX12_table 119 = .ok (.lastore, 1) := by decide +kernel
theorem dX12_table_120 : decode cX12_table 120 = .ok (.iinc 2 1, 3) := by decide +kernel
theorem dX12_table_123 : decode cX12_table 123 = .ok (.goto (-21), 3) := by decide +kernel
theorem dX12_table_126 : decode cX12_table 126 = .ok (.aload_n 0, 1) := by decide +kernel
theorem dX12_table_127 : decode cX12_table 127 = .ok (.invokevirtual 225, 3) := by decide +kernel
theorem dX12_table_130 : decode cX12_table 130 = .ok (.aload_n 0, 1) := by decide +kernel
theorem dX12_table_131 : decode cX12_table 131 = .ok (.iconst 0, 1) := by decide +kernel
theorem dX12_table_132 : decode cX12_table 132 = .ok (.putfield 228, 3) := by decide +kernel
theorem dX12_table_135 : decode cX12_table 135 = .ok (.iload_n 1, 1) := by decide +kernel
theorem dX12_table_136 : decode cX12_table 136 = .ok (.ireturn, 1) := by decide +kernel
theorem rc_72 : Rg 72 72 72 := ⟨by decide, by decide⟩
theorem rc_73 : Rg 73 73 73 := ⟨by decide, by decide⟩
theorem rc_74 : Rg 74 74 74 := ⟨by decide, by decide⟩
theorem rc_84 : Rg 84 84 84 := ⟨by decide, by decide⟩
theorem rc_91 : Rg 91 91 91 := ⟨by decide, by decide⟩
set_option maxRecDepth 100000 in
set_option maxHeartbeats 8000000 in
theorem c_X12_table {l : Launch} {D : va_G} {cy : Nat → ClassId} {L : List Nat} {κ ln : Nat → Nat} {R : Nat → Nat → Option Nat} {I : Nat → Nat → Int32} {J : Nat → Nat → Int64} {ow : Nat → Nat × Nat} (W9 : ∀ a ∈ L, Shp L κ ln R ow a) {x : Nat} (hLx : x ∈ L) (hkx : κ x = 12) (hU : Iw L κ R ow I) : CtI l yX12_table cX12_table 3 (some .int) { frames := 7, cells := 0, slots := 0, locals := 154 } D cy L κ ln R I J [.ref x] (fun r I2 J2 => Iw L κ R ow I2 ∧ Fq L κ ow [1200, 1202, 1203, 1204, 1205, 1206, 1207, 1208, 1209, 1210, 1211, 1213, 1223, 1224, 1225, 83400, 83500] I I2 ∧ Fq L κ ow [1212, 83900, 84000] J J2 ∧ Rg (-2147483648) 2147483647 r ∧ (r = mTable (MTf R I J x) (NRf R I J x)) ∧ ((mTableB (MTf R I J x) (NRf R I J x) = none ∧ Hd_ R x I I2) ∨ Nt_ R x I2 (mTableB (MTf R I J x) (NRf R I J x))) ∧ ((mTableN (MTf R I J x) (NRf R I J x) = none ∧ Rj_ R x J J2) ∨ Ny_ R x J2 (mTableN (MTf R I J x) (NRf R I J x))) ∧ (I2 x 10 = mTableF (MTf R I J x) (NRf R I J x))) := by
  obtain ⟨zf, hzf⟩ : ∃ z, mTableF (MTf R I J x) (NRf R I J x) = z := ⟨_, rfl⟩
  have rzf : Rg (-2147483648) 2147483647 zf := rg_all zf
  obtain ⟨b_1, hb_1, hb_1L, hb_1k, hb_1n, hb_1o⟩ := shp_a (W9 x hLx) hkx 19 15 13 rfl (by decide)
  obtain ⟨b_2, hb_2, hb_2L, hb_2k, hb_2n, hb_2o⟩ := shp_a (W9 x hLx) hkx 20 15 13 rfl (by decide)
  obtain ⟨b_3, hb_3, hb_3L, hb_3k, hb_3n, hb_3o⟩ := shp_a (W9 x hLx) hkx 21 15 26 rfl (by decide)
  refine CtI.of (by decide +kernel) (Nat.le_of_ble_eq_true rfl) ?_
  intro p e s m below meth c B K
  have C := B.1
  have hF : Fq L κ ow [1200, 1202, 1203, 1204, 1205, 1206, 1207, 1208, 1209, 1210, 1211, 1213, 1223, 1224, 1225, 83400, 83500] I I := fq_rf
  have hG : Fq L κ ow [1212, 83900, 84000] J J := fq_rf
  obtain ⟨b_4, hb_4, hb_4L, hb_4k, hb_4n, hb_4o⟩ := shp_a (W9 x hLx) hkx 15 14 72 rfl (by decide)
  obtain ⟨b_5, hb_5, hb_5L, hb_5k, hb_5n, hb_5o⟩ := shp_a (W9 x hLx) hkx 14 14 389 rfl (by decide)
  obtain ⟨b_6, hb_6, hb_6L, hb_6k, hb_6n, hb_6o⟩ := shp_a (W9 x hLx) hkx 1 14 940 rfl (by decide)
  have emqx : ∀ I J, MTf R I J x = MTq I J x b_6 := fun I J => by simp only [MTf, rr_, Option.getD_some, hb_6]
  have wmqx : mqw_ L κ ow x b_6 := ⟨⟨hLx, hb_6L⟩, ⟨(ro_o hkx (by decide)), (ro_a hb_6k (by decide) hb_6o hkx rfl)⟩⟩
  obtain ⟨s_7, hs_7⟩ : ∃ z, MTq I J x b_6 = z := ⟨_, rfl⟩
  have enqx : ∀ I J, NRf R I J x = NRq I J x b_4 b_2 := fun I J => by simp only [NRf, rr_, Option.getD_some, hb_4, hb_2]
  have wnqx : nqw_ L κ ow x b_4 b_2 := ⟨⟨hLx, hb_4L, hb_2L⟩, ⟨(ro_o hkx (by decide)), (ro_a hb_4k (by decide) hb_4o hkx rfl), (ro_a hb_2k (by decide) hb_2o hkx rfl)⟩⟩
  obtain ⟨s_8, hs_8⟩ : ∃ z, NRq I J x b_4 b_2 = z := ⟨_, rfl⟩
  refine g_lo (is := [0]) (lo2 := [(0, .ref x)]) rfl ?_
  have l_102 : ∀ (n_102 : Nat) (I_9 : Nat → Nat → Int32) (J_10 : Nat → Nat → Int64) (hU_11 : Iw1 L κ R ow I_9) (hF_12 : Fq L κ ow [1200, 1202, 1203, 1204, 1205, 1206, 1207, 1208, 1209, 1210, 1211, 1213, 1223, 1224, 1225, 83400, 83500] I I_9) (hG_13 : Fq L κ ow [1212, 83900, 84000] J J_10) (v_14 : Int32) (v_15 : Int32) (rv_15 : Rg 0 13 v_15) (v_16 : Int32) (v_17 : Int32) (rv_17 : Rg 0 0 v_17) (q_18 : I_9 x 10 = v_16) (q_19 : I_9 x 7 = v_17) (hq_20 : v_14 = mTable s_7 s_8) (hd_21 : Nt_ R x I_9 (mTableB (MTf R I J x) (NRf R I J x))) (nx_22 : Nx_ R x J_10 v_15.toNatClampNeg (mTableN (MTf R I J x) (NRf R I J x))) (zq_23 : I_9 x 10 = zf) (hm_24 : 13 < (v_15 : Int32).toInt + (n_102 : Int)), WG p l e { frames := 7, cells := 0, slots := 0, locals := 154 } s m ([.ref x] : List Value).toArray below meth c 3 0 0 (MQ below (Qi_ D cy L κ ln R (fun r I2 J2 => Iw L κ R ow I2 ∧ Fq L κ ow [1200, 1202, 1203, 1204, 1205, 1206, 1207, 1208, 1209, 1210, 1211, 1213, 1223, 1224, 1225, 83400, 83500] I I2 ∧ Fq L κ ow [1212, 83900, 84000] J J2 ∧ Rg (-2147483648) 2147483647 r ∧ (r = mTable (MTf R I J x) (NRf R I J x)) ∧ ((mTableB (MTf R I J x) (NRf R I J x) = none ∧ Hd_ R x I I2) ∨ Nt_ R x I2 (mTableB (MTf R I J x) (NRf R I J x))) ∧ ((mTableN (MTf R I J x) (NRf R I J x) = none ∧ Rj_ R x J J2) ∨ Ny_ R x J2 (mTableN (MTf R I J x) (NRf R I J x))) ∧ (I2 x 10 = mTableF (MTf R I J x) (NRf R I J x)))) ([.ref x] : List Value).toArray s 0 0 (Al_ L)) D cy (Al_ L) s.heap L κ ln R I_9 J_10 102 [(0, .ref x), (1, .int v_14), (2, .int v_15)] [] := by
    intro n_102
    induction n_102 with
    | zero =>
      intro I_9 J_10 hU_11 hF_12 hG_13 v_14 v_15 rv_15 v_16 v_17 rv_17 q_18 q_19 hq_20 hd_21 nx_22 zq_23 hm_24
      exact ms_0 rv_15 hm_24
    | succ n_102 ih_102 =>
      intro I_9 J_10 hU_11 hF_12 hG_13 v_14 v_15 rv_15 v_16 v_17 rv_17 q_18 q_19 hq_20 hd_21 nx_22 zq_23 hm_24
      obtain ⟨s_25, hs_25⟩ : ∃ z, MTq I_9 J_10 x b_6 = z := ⟨_, rfl⟩
      obtain ⟨s_26, hs_26⟩ : ∃ z, NRq I_9 J_10 x b_4 b_2 = z := ⟨_, rfl⟩
      (try simp only [hs_25, hs_26] at hq_20)
      have hQ_27 := hq_20.symm
      refine g_iload_n C 2 dX12_table_102 rfl rfl ?_
      refine g_bipush C (v := 13) dX12_table_103 (by decide) ?_
      refine g_icmp_ge C (tgt := 126) dX12_table_105 (by decide) (fun h_28 => ?_) (fun h_28 => ?_)
      · skip
        have r_29 := le_r (h_28) rc_13 rv_15
        refine g_aload_n C 0 dX12_table_126 rfl rfl ?_
        refine g_callVV C K (c_X12_startSo W9 hLx hkx   hU_11) hLx hkx (by decide) rfl v_12_225 rfl ⟨rfl, rfl⟩ ⟨Nat.le_of_ble_eq_true rfl, Nat.le_of_ble_eq_true rfl⟩ (Nat.le_of_ble_eq_true rfl) ⟨Nat.le_of_ble_eq_true rfl, Nat.le_of_ble_eq_true rfl⟩ dX12_table_127 rfl (st := []) (fun I_31 J_32 h_33 => ?_)
        obtain ⟨hUI_31, hFI_31, hGJ_32, ex_30⟩ := h_33
        have hF_34 := fq_tr hF_12 hFI_31 (by decide)
        have hG_35 := fq_tr hG_13 hGJ_32 (by decide)
        have hs_36 : MTq I_31 J_32 x b_6 = s_25 := (mq_fq wmqx hFI_31 hGJ_32 (by decide) (by decide)).trans hs_25
        have hs_37 : NRq I_31 J_32 x b_4 b_2 = s_26 := (nq_fq wnqx hFI_31 hGJ_32 (by decide) (by decide)).trans hs_26
        refine g_aload_n C 0 dX12_table_130 rfl rfl ?_
        refine g_iconst C (v := 0) dX12_table_131 (by decide) ?_
        refine h_putI C K hLx hkx f_12_228 p_12_23 dX12_table_132 (fun I_38 hI_38 => ?_)
        have hU_39 := iw_z W9 hUI_31 (uw_put hUI_31.1 hI_38 (ro_o hkx (by decide)) (lo := 0) (hi := 8) (rfl) (rg_w rc_0 (by decide) (by decide))) hLx hkx hI_38
        have hF_40 := fq_puto hF_34 hI_38 hkx (by decide) (by decide)
        have hs_41 : MTq I_38 J_32 x b_6 = s_25 := by rw [hI_38]; exact (mq_uIt wmqx (by decide)).trans hs_36
        have hs_42 : NRq I_38 J_32 x b_4 b_2 = s_26 := by rw [hI_38]; exact (nq_uIt wnqx (by decide)).trans hs_37
        refine g_iload_n C 1 dX12_table_135 rfl rfl ?_
        exact g_zret (ty := .int) (r := v_14) B K rfl (rfl) ⟨hU_39, hF_40, hG_35, (rg_all v_14), (by (try simp only [h_28, if_true, if_false, mqM_tp, mqM_size, mqM_limit, mqM_to, mqM_frm, mqM_kind, mqM_number, mqM_sign, mqM_word, MT_.w_tp, MT_.w_size, MT_.w_limit, MT_.w_to, MT_.w_frm, MT_.w_kind, MT_.w_number, MT_.w_sign, MT_.w_word, nqM_rd, nqM_rn, nqM_taped, nqM_mfault, nqM_mplace, nqM_told, nqM_hl, nqM_hd, NR_.w_rd, NR_.w_rn, NR_.w_taped, NR_.w_mfault, NR_.w_mplace, NR_.w_told, NR_.w_hl, NR_.w_hd] at hQ_27); simp only [emqx, hs_41, hs_7, enqx, hs_42, hs_8, hQ_27, h_28, if_true, if_false, mqM_tp, mqM_size, mqM_limit, mqM_to, mqM_frm, mqM_kind, mqM_number, mqM_sign, mqM_word, MT_.w_tp, MT_.w_size, MT_.w_limit, MT_.w_to, MT_.w_frm, MT_.w_kind, MT_.w_number, MT_.w_sign, MT_.w_word, nqM_rd, nqM_rn, nqM_taped, nqM_mfault, nqM_mplace, nqM_told, nqM_hl, nqM_hd, NR_.w_rd, NR_.w_rn, NR_.w_taped, NR_.w_mfault, NR_.w_mplace, NR_.w_told, NR_.w_hl, NR_.w_hd]), (Or.inr (nt_hd (nt_hd hd_21 ex_30) (hd_u (r := 0) W9 hLx hkx hd_rf hI_38 (Or.inl (ro_o hkx (by decide)))))), (Or.inr (nn_fq W9 hLx hkx (nn_of nx_22 (Nat.le_of_eq (nn13 r_29).symm)) hGJ_32 (by decide))), (Eq.trans (kp_j hI_38 (by decide) (fq_at hFI_31 hLx hkx (by decide) (by decide) zq_23)) hzf.symm)⟩ dX12_table_136
      · skip
        have r_43 := lt_l (hi := 12) (nle h_28) rv_15 rc_13 (by decide)
        refine g_aload_n C 0 dX12_table_108 rfl rfl ?_
        refine g_getR C K hLx hkx f_12_28 hb_1 dX12_table_109 ?_
        refine g_iload_n C 2 dX12_table_112 rfl rfl ?_
        refine g_aload_n C 0 dX12_table_113 rfl rfl ?_
        refine g_getR C K hLx hkx f_12_32 hb_2 dX12_table_114 ?_
        refine g_iload_n C 2 dX12_table_117 rfl rfl ?_
        obtain ⟨y_44, hy_44⟩ : ∃ z, J_10 b_2 (v_15.toNatClampNeg) = z := ⟨_, rfl⟩
        have f_45 : s_26.rn (v_15.toNatClampNeg) = y_44 := (congrFun (congrArg NR_.rn hs_26) _).symm.trans hy_44
        refine h_lald C K hb_2L hb_2k (v := y_44) (v_15.toNatClampNeg) (rfl) (ix_0 r_43 (by decide)) (ix_lt r_43 (by decide) hb_2n (by decide)) hy_44 dX12_table_118 ?_
        refine h_last C K hb_1L hb_1k (v_15.toNatClampNeg) (rfl) (ix_0 r_43 (by decide)) (ix_lt r_43 (by decide) hb_1n (by decide)) dX12_table_119 (fun J_46 hJ_46 => ?_)
        have hG_47 := fq_puta hG_13 hJ_46 (ro_a hb_1k (by decide) hb_1o hkx rfl) (by decide) (by decide)
        have hs_48 : MTq I_9 J_46 x b_6 = s_25 := by rw [hJ_46]; exact (mq_oJ wmqx (ro_a hb_1k (by decide) hb_1o hkx rfl) (by decide)).trans hs_25
        have hs_49 : NRq I_9 J_46 x b_4 b_2 = s_26 := by rw [hJ_46]; exact (nq_oJ wnqx (ro_a hb_1k (by decide) hb_1o hkx rfl) (by decide)).trans hs_26
        obtain ⟨x_50, hx_50, rx_50, tx_50⟩ := ex_add (y := 1) 1 13 r_43 rc_1 (by decide) (by decide) (by decide) (by decide)
        refine g_iinc C dX12_table_120 (k := 2) (v := x_50) rfl hx_50 (by decide) (lo2 := [(2, .int x_50), (0, .ref x), (1, .int v_14)]) rfl ?_
        refine g_goto C (tgt := 102) dX12_table_123 (by decide) ?_
        refine g_lo (is := [1, 2, 0]) (lo2 := [(0, .ref x), (1, .int v_14), (2, .int x_50)]) rfl ?_
        exact ih_102 I_9 J_46 hU_11 hF_12 hG_47 v_14 x_50 (rg_w rx_50 (by decide) (by decide)) zf v_17 (rv_17) zq_23 q_19 (by (try simp only [h_28, (nle h_28), hy_44, f_45, hx_50, if_true, if_false, mqM_tp, mqM_size, mqM_limit, mqM_to, mqM_frm, mqM_kind, mqM_number, mqM_sign, mqM_word, MT_.w_tp, MT_.w_size, MT_.w_limit, MT_.w_to, MT_.w_frm, MT_.w_kind, MT_.w_number, MT_.w_sign, MT_.w_word, nqM_rd, nqM_rn, nqM_taped, nqM_mfault, nqM_mplace, nqM_told, nqM_hl, nqM_hd, NR_.w_rd, NR_.w_rn, NR_.w_taped, NR_.w_mfault, NR_.w_mplace, NR_.w_told, NR_.w_hl, NR_.w_hd] at hQ_27); simp only [emqx, hs_48, hs_7, enqx, hs_49, hs_8, hQ_27, h_28, (nle h_28), hy_44, f_45, hx_50, if_true, if_false, mqM_tp, mqM_size, mqM_limit, mqM_to, mqM_frm, mqM_kind, mqM_number, mqM_sign, mqM_word, MT_.w_tp, MT_.w_size, MT_.w_limit, MT_.w_to, MT_.w_frm, MT_.w_kind, MT_.w_number, MT_.w_sign, MT_.w_word, nqM_rd, nqM_rn, nqM_taped, nqM_mfault, nqM_mplace, nqM_told, nqM_hl, nqM_hd, NR_.w_rd, NR_.w_rn, NR_.w_taped, NR_.w_mfault, NR_.w_mplace, NR_.w_told, NR_.w_hl, NR_.w_hd]) hd_21 (nx_c (nx_st nx_22 hb_1 hb_2 (nz_ro (ro_a hb_1k (by decide) hb_1o hkx rfl) (ro_a hb_2k (by decide) hb_2o hkx rfl) (by decide)) hJ_46 hy_44 rfl rfl) (show x_50.toNatClampNeg = v_15.toNatClampNeg + 1 from nx_a tx_50 r_43 rc_1 (by decide))) zq_23 (ms_1 hm_24 (ti_k tx_50 rc_1) (by decide))
  have l_40 : ∀ (n_40 : Nat) (I_51 : Nat → Nat → Int32) (J_52 : Nat → Nat → Int64) (hU_53 : Iw L κ R ow I_51) (hF_54 : Fq L κ ow [1200, 1202, 1203, 1204, 1205, 1206, 1207, 1208, 1209, 1210, 1211, 1213, 1223, 1224, 1225, 83400, 83500] I I_51) (hG_55 : Fq L κ ow [1212, 83900, 84000] J J_52) (v_56 : Int32) (hq_57 : (mtl n_40 v_56 ((MTq I_51 J_52 x b_6), (NRq I_51 J_52 x b_4 b_2))).1 = mTable s_7 s_8) (hq_58 : mtlB n_40 v_56 ((MTq I_51 J_52 x b_6), (NRq I_51 J_52 x b_4 b_2)) = mTableB s_7 s_8) (hq_59 : mtlN n_40 v_56 ((MTq I_51 J_52 x b_6), (NRq I_51 J_52 x b_4 b_2)) = mTableN s_7 s_8) (hq_60 : mtlF n_40 v_56 ((MTq I_51 J_52 x b_6), (NRq I_51 J_52 x b_4 b_2)) = mTableF s_7 s_8) (hd_61 : Hd_ R x I I_51) (nx_62 : Rj_ R x J J_52) (hm_63 : 940 < (I_51 x 5).toInt + (n_40 : Int)), WG p l e { frames := 7, cells := 0, slots := 0, locals := 154 } s m ([.ref x] : List Value).toArray below meth c 3 0 0 (MQ below (Qi_ D cy L κ ln R (fun r I2 J2 => Iw L κ R ow I2 ∧ Fq L κ ow [1200, 1202, 1203, 1204, 1205, 1206, 1207, 1208, 1209, 1210, 1211, 1213, 1223, 1224, 1225, 83400, 83500] I I2 ∧ Fq L κ ow [1212, 83900, 84000] J J2 ∧ Rg (-2147483648) 2147483647 r ∧ (r = mTable (MTf R I J x) (NRf R I J x)) ∧ ((mTableB (MTf R I J x) (NRf R I J x) = none ∧ Hd_ R x I I2) ∨ Nt_ R x I2 (mTableB (MTf R I J x) (NRf R I J x))) ∧ ((mTableN (MTf R I J x) (NRf R I J x) = none ∧ Rj_ R x J J2) ∨ Ny_ R x J2 (mTableN (MTf R I J x) (NRf R I J x))) ∧ (I2 x 10 = mTableF (MTf R I J x) (NRf R I J x)))) ([.ref x] : List Value).toArray s 0 0 (Al_ L)) D cy (Al_ L) s.heap L κ ln R I_51 J_52 40 [(0, .ref x), (1, .int v_56)] [] := by
    intro n_40
    induction n_40 with
    | zero =>
      intro I_51 J_52 hU_53 hF_54 hG_55 v_56 hq_57 hq_58 hq_59 hq_60 hd_61 nx_62 hm_63
      exact absurd hm_63 (by obtain ⟨z, hz, rz⟩ := ex_getw (I := I_51) (a := x) (j := 5) (lo := 0) (hi := 940) hU_53.1 hLx (ro_o hkx (by decide)) rfl; rw [hz]; have := rz.2; omega)
    | succ n_40 ih_40 =>
      intro I_51 J_52 hU_53 hF_54 hG_55 v_56 hq_57 hq_58 hq_59 hq_60 hd_61 nx_62 hm_63
      obtain ⟨s_64, hs_64⟩ : ∃ z, MTq I_51 J_52 x b_6 = z := ⟨_, rfl⟩
      obtain ⟨s_65, hs_65⟩ : ∃ z, NRq I_51 J_52 x b_4 b_2 = z := ⟨_, rfl⟩
      simp only [hs_64, hs_65] at hq_57
      have hQ_66 := hq_57.symm
      simp only [hs_64, hs_65] at hq_58
      have hQ_67 := hq_58.symm
      simp only [hs_64, hs_65] at hq_59
      have hQ_68 := hq_59.symm
      simp only [hs_64, hs_65] at hq_60
      have hQ_69 := hq_60.symm
      have u_70 := mtl_eq (k := n_40) (i := v_56) (s := (s_64, s_65))
      have u_71 := mtlB_eq (k := n_40) (i := v_56) (s := (s_64, s_65))
      have u_72 := mtlN_eq (k := n_40) (i := v_56) (s := (s_64, s_65))
      have u_73 := mtlF_eq (k := n_40) (i := v_56) (s := (s_64, s_65))
      refine g_aload_n C 0 dX12_table_40 rfl rfl ?_
      obtain ⟨x_74, hx_74, rx_74⟩ := ex_getw (I := I_51) (a := x) (j := 7) (lo := 0) (hi := 4) hU_53.1 hLx (ro_o hkx (by decide)) rfl
      have f_75 : s_64.kind = x_74 := (congrArg MT_.kind hs_64).symm.trans hx_74
      refine g_getI C K hLx hkx f_12_104 (v := x_74) hx_74 dX12_table_41 ?_
      refine g_if_eq C (tgt := 74) dX12_table_44 (by decide) (fun h_76 => ?_) (fun h_76 => ?_)
      · skip
        have r_77 := (⟨(rx_74).1, (eq_rg (h_76) rc_0).2⟩ : Rg 0 0 x_74)
        obtain ⟨x_78, hx_78, rx_78⟩ := ex_getw (I := I_51) (a := x) (j := 10) (lo := (-2147483648)) (hi := 2147483647) hU_53.1 hLx (ro_o hkx (by decide)) rfl
        have f_79 : s_65.mfault = x_78 := (congrArg NR_.mfault hs_65).symm.trans hx_78
        have mf_80 : mTableF (MTf R I J x) (NRf R I J x) = x_78 := by (try simp only [hx_74, f_75, (eq_true h_76), hx_78, f_79, if_true, if_false, mqM_tp, mqM_size, mqM_limit, mqM_to, mqM_frm, mqM_kind, mqM_number, mqM_sign, mqM_word, MT_.w_tp, MT_.w_size, MT_.w_limit, MT_.w_to, MT_.w_frm, MT_.w_kind, MT_.w_number, MT_.w_sign, MT_.w_word, nqM_rd, nqM_rn, nqM_taped, nqM_mfault, nqM_mplace, nqM_told, nqM_hl, nqM_hd, NR_.w_rd, NR_.w_rn, NR_.w_taped, NR_.w_mfault, NR_.w_mplace, NR_.w_told, NR_.w_hl, NR_.w_hd] at hQ_66); (try simp only [hx_74, f_75, (eq_true h_76), hx_78, f_79, if_true, if_false, mqM_tp, mqM_size, mqM_limit, mqM_to, mqM_frm, mqM_kind, mqM_number, mqM_sign, mqM_word, MT_.w_tp, MT_.w_size, MT_.w_limit, MT_.w_to, MT_.w_frm, MT_.w_kind, MT_.w_number, MT_.w_sign, MT_.w_word, nqM_rd, nqM_rn, nqM_taped, nqM_mfault, nqM_mplace, nqM_told, nqM_hl, nqM_hd, NR_.w_rd, NR_.w_rn, NR_.w_taped, NR_.w_mfault, NR_.w_mplace, NR_.w_told, NR_.w_hl, NR_.w_hd] at hQ_67); (try simp only [hx_74, f_75, (eq_true h_76), hx_78, f_79, if_true, if_false, mqM_tp, mqM_size, mqM_limit, mqM_to, mqM_frm, mqM_kind, mqM_number, mqM_sign, mqM_word, MT_.w_tp, MT_.w_size, MT_.w_limit, MT_.w_to, MT_.w_frm, MT_.w_kind, MT_.w_number, MT_.w_sign, MT_.w_word, nqM_rd, nqM_rn, nqM_taped, nqM_mfault, nqM_mplace, nqM_told, nqM_hl, nqM_hd, NR_.w_rd, NR_.w_rn, NR_.w_taped, NR_.w_mfault, NR_.w_mplace, NR_.w_told, NR_.w_hl, NR_.w_hd] at hQ_68); (try simp only [hx_74, f_75, (eq_true h_76), hx_78, f_79, if_true, if_false, mqM_tp, mqM_size, mqM_limit, mqM_to, mqM_frm, mqM_kind, mqM_number, mqM_sign, mqM_word, MT_.w_tp, MT_.w_size, MT_.w_limit, MT_.w_to, MT_.w_frm, MT_.w_kind, MT_.w_number, MT_.w_sign, MT_.w_word, nqM_rd, nqM_rn, nqM_taped, nqM_mfault, nqM_mplace, nqM_told, nqM_hl, nqM_hd, NR_.w_rd, NR_.w_rn, NR_.w_taped, NR_.w_mfault, NR_.w_mplace, NR_.w_told, NR_.w_hl, NR_.w_hd] at hQ_69); (try simp only [hx_74, f_75, (eq_true h_76), hx_78, f_79, if_true, if_false, mqM_tp, mqM_size, mqM_limit, mqM_to, mqM_frm, mqM_kind, mqM_number, mqM_sign, mqM_word, MT_.w_tp, MT_.w_size, MT_.w_limit, MT_.w_to, MT_.w_frm, MT_.w_kind, MT_.w_number, MT_.w_sign, MT_.w_word, nqM_rd, nqM_rn, nqM_taped, nqM_mfault, nqM_mplace, nqM_told, nqM_hl, nqM_hd, NR_.w_rd, NR_.w_rn, NR_.w_taped, NR_.w_mfault, NR_.w_mplace, NR_.w_told, NR_.w_hl, NR_.w_hd] at u_70); (try simp only [hx_74, f_75, (eq_true h_76), hx_78, f_79, if_true, if_false, mqM_tp, mqM_size, mqM_limit, mqM_to, mqM_frm, mqM_kind, mqM_number, mqM_sign, mqM_word, MT_.w_tp, MT_.w_size, MT_.w_limit, MT_.w_to, MT_.w_frm, MT_.w_kind, MT_.w_number, MT_.w_sign, MT_.w_word, nqM_rd, nqM_rn, nqM_taped, nqM_mfault, nqM_mplace, nqM_told, nqM_hl, nqM_hd, NR_.w_rd, NR_.w_rn, NR_.w_taped, NR_.w_mfault, NR_.w_mplace, NR_.w_told, NR_.w_hl, NR_.w_hd] at u_71); (try simp only [hx_74, f_75, (eq_true h_76), hx_78, f_79, if_true, if_false, mqM_tp, mqM_size, mqM_limit, mqM_to, mqM_frm, mqM_kind, mqM_number, mqM_sign, mqM_word, MT_.w_tp, MT_.w_size, MT_.w_limit, MT_.w_to, MT_.w_frm, MT_.w_kind, MT_.w_number, MT_.w_sign, MT_.w_word, nqM_rd, nqM_rn, nqM_taped, nqM_mfault, nqM_mplace, nqM_told, nqM_hl, nqM_hd, NR_.w_rd, NR_.w_rn, NR_.w_taped, NR_.w_mfault, NR_.w_mplace, NR_.w_told, NR_.w_hl, NR_.w_hd] at u_72); (try simp only [hx_74, f_75, (eq_true h_76), hx_78, f_79, if_true, if_false, mqM_tp, mqM_size, mqM_limit, mqM_to, mqM_frm, mqM_kind, mqM_number, mqM_sign, mqM_word, MT_.w_tp, MT_.w_size, MT_.w_limit, MT_.w_to, MT_.w_frm, MT_.w_kind, MT_.w_number, MT_.w_sign, MT_.w_word, nqM_rd, nqM_rn, nqM_taped, nqM_mfault, nqM_mplace, nqM_told, nqM_hl, nqM_hd, NR_.w_rd, NR_.w_rn, NR_.w_taped, NR_.w_mfault, NR_.w_mplace, NR_.w_told, NR_.w_hl, NR_.w_hd] at u_73); simp only [emqx, hs_64, hs_7, enqx, hs_65, hs_8, hQ_66, hQ_67, hQ_68, hQ_69, u_70, u_71, u_72, u_73, hx_74, f_75, (eq_true h_76), hx_78, f_79, if_true, if_false, mqM_tp, mqM_size, mqM_limit, mqM_to, mqM_frm, mqM_kind, mqM_number, mqM_sign, mqM_word, MT_.w_tp, MT_.w_size, MT_.w_limit, MT_.w_to, MT_.w_frm, MT_.w_kind, MT_.w_number, MT_.w_sign, MT_.w_word, nqM_rd, nqM_rn, nqM_taped, nqM_mfault, nqM_mplace, nqM_told, nqM_hl, nqM_hd, NR_.w_rd, NR_.w_rn, NR_.w_taped, NR_.w_mfault, NR_.w_mplace, NR_.w_told, NR_.w_hl, NR_.w_hd]
        have tb_81 : mTableN (MTf R I J x) (NRf R I J x) = some (s_65.rn) := by (try simp only [hx_74, f_75, (eq_true h_76), hx_78, f_79, if_true, if_false, mqM_tp, mqM_size, mqM_limit, mqM_to, mqM_frm, mqM_kind, mqM_number, mqM_sign, mqM_word, MT_.w_tp, MT_.w_size, MT_.w_limit, MT_.w_to, MT_.w_frm, MT_.w_kind, MT_.w_number, MT_.w_sign, MT_.w_word, nqM_rd, nqM_rn, nqM_taped, nqM_mfault, nqM_mplace, nqM_told, nqM_hl, nqM_hd, NR_.w_rd, NR_.w_rn, NR_.w_taped, NR_.w_mfault, NR_.w_mplace, NR_.w_told, NR_.w_hl, NR_.w_hd] at hQ_66); (try simp only [hx_74, f_75, (eq_true h_76), hx_78, f_79, if_true, if_false, mqM_tp, mqM_size, mqM_limit, mqM_to, mqM_frm, mqM_kind, mqM_number, mqM_sign, mqM_word, MT_.w_tp, MT_.w_size, MT_.w_limit, MT_.w_to, MT_.w_frm, MT_.w_kind, MT_.w_number, MT_.w_sign, MT_.w_word, nqM_rd, nqM_rn, nqM_taped, nqM_mfault, nqM_mplace, nqM_told, nqM_hl, nqM_hd, NR_.w_rd, NR_.w_rn, NR_.w_taped, NR_.w_mfault, NR_.w_mplace, NR_.w_told, NR_.w_hl, NR_.w_hd] at hQ_67); (try simp only [hx_74, f_75, (eq_true h_76), hx_78, f_79, if_true, if_false, mqM_tp, mqM_size, mqM_limit, mqM_to, mqM_frm, mqM_kind, mqM_number, mqM_sign, mqM_word, MT_.w_tp, MT_.w_size, MT_.w_limit, MT_.w_to, MT_.w_frm, MT_.w_kind, MT_.w_number, MT_.w_sign, MT_.w_word, nqM_rd, nqM_rn, nqM_taped, nqM_mfault, nqM_mplace, nqM_told, nqM_hl, nqM_hd, NR_.w_rd, NR_.w_rn, NR_.w_taped, NR_.w_mfault, NR_.w_mplace, NR_.w_told, NR_.w_hl, NR_.w_hd] at hQ_68); (try simp only [hx_74, f_75, (eq_true h_76), hx_78, f_79, if_true, if_false, mqM_tp, mqM_size, mqM_limit, mqM_to, mqM_frm, mqM_kind, mqM_number, mqM_sign, mqM_word, MT_.w_tp, MT_.w_size, MT_.w_limit, MT_.w_to, MT_.w_frm, MT_.w_kind, MT_.w_number, MT_.w_sign, MT_.w_word, nqM_rd, nqM_rn, nqM_taped, nqM_mfault, nqM_mplace, nqM_told, nqM_hl, nqM_hd, NR_.w_rd, NR_.w_rn, NR_.w_taped, NR_.w_mfault, NR_.w_mplace, NR_.w_told, NR_.w_hl, NR_.w_hd] at hQ_69); (try simp only [hx_74, f_75, (eq_true h_76), hx_78, f_79, if_true, if_false, mqM_tp, mqM_size, mqM_limit, mqM_to, mqM_frm, mqM_kind, mqM_number, mqM_sign, mqM_word, MT_.w_tp, MT_.w_size, MT_.w_limit, MT_.w_to, MT_.w_frm, MT_.w_kind, MT_.w_number, MT_.w_sign, MT_.w_word, nqM_rd, nqM_rn, nqM_taped, nqM_mfault, nqM_mplace, nqM_told, nqM_hl, nqM_hd, NR_.w_rd, NR_.w_rn, NR_.w_taped, NR_.w_mfault, NR_.w_mplace, NR_.w_told, NR_.w_hl, NR_.w_hd] at u_70); (try simp only [hx_74, f_75, (eq_true h_76), hx_78, f_79, if_true, if_false, mqM_tp, mqM_size, mqM_limit, mqM_to, mqM_frm, mqM_kind, mqM_number, mqM_sign, mqM_word, MT_.w_tp, MT_.w_size, MT_.w_limit, MT_.w_to, MT_.w_frm, MT_.w_kind, MT_.w_number, MT_.w_sign, MT_.w_word, nqM_rd, nqM_rn, nqM_taped, nqM_mfault, nqM_mplace, nqM_told, nqM_hl, nqM_hd, NR_.w_rd, NR_.w_rn, NR_.w_taped, NR_.w_mfault, NR_.w_mplace, NR_.w_told, NR_.w_hl, NR_.w_hd] at u_71); (try simp only [hx_74, f_75, (eq_true h_76), hx_78, f_79, if_true, if_false, mqM_tp, mqM_size, mqM_limit, mqM_to, mqM_frm, mqM_kind, mqM_number, mqM_sign, mqM_word, MT_.w_tp, MT_.w_size, MT_.w_limit, MT_.w_to, MT_.w_frm, MT_.w_kind, MT_.w_number, MT_.w_sign, MT_.w_word, nqM_rd, nqM_rn, nqM_taped, nqM_mfault, nqM_mplace, nqM_told, nqM_hl, nqM_hd, NR_.w_rd, NR_.w_rn, NR_.w_taped, NR_.w_mfault, NR_.w_mplace, NR_.w_told, NR_.w_hl, NR_.w_hd] at u_72); (try simp only [hx_74, f_75, (eq_true h_76), hx_78, f_79, if_true, if_false, mqM_tp, mqM_size, mqM_limit, mqM_to, mqM_frm, mqM_kind, mqM_number, mqM_sign, mqM_word, MT_.w_tp, MT_.w_size, MT_.w_limit, MT_.w_to, MT_.w_frm, MT_.w_kind, MT_.w_number, MT_.w_sign, MT_.w_word, nqM_rd, nqM_rn, nqM_taped, nqM_mfault, nqM_mplace, nqM_told, nqM_hl, nqM_hd, NR_.w_rd, NR_.w_rn, NR_.w_taped, NR_.w_mfault, NR_.w_mplace, NR_.w_told, NR_.w_hl, NR_.w_hd] at u_73); simp only [emqx, hs_64, hs_7, enqx, hs_65, hs_8, hQ_66, hQ_67, hQ_68, hQ_69, u_70, u_71, u_72, u_73, hx_74, f_75, (eq_true h_76), hx_78, f_79, if_true, if_false, mqM_tp, mqM_size, mqM_limit, mqM_to, mqM_frm, mqM_kind, mqM_number, mqM_sign, mqM_word, MT_.w_tp, MT_.w_size, MT_.w_limit, MT_.w_to, MT_.w_frm, MT_.w_kind, MT_.w_number, MT_.w_sign, MT_.w_word, nqM_rd, nqM_rn, nqM_taped, nqM_mfault, nqM_mplace, nqM_told, nqM_hl, nqM_hd, NR_.w_rd, NR_.w_rn, NR_.w_taped, NR_.w_mfault, NR_.w_mplace, NR_.w_told, NR_.w_hl, NR_.w_hd]
        have rnj_82 : ∀ j, J_52 b_2 j = (s_65.rn) j := fun j => congrFun (congrArg NR_.rn hs_65) j
        have tb_83 : mTableB (MTf R I J x) (NRf R I J x) = some (s_65.rd) := by (try simp only [hx_74, f_75, (eq_true h_76), hx_78, f_79, if_true, if_false, mqM_tp, mqM_size, mqM_limit, mqM_to, mqM_frm, mqM_kind, mqM_number, mqM_sign, mqM_word, MT_.w_tp, MT_.w_size, MT_.w_limit, MT_.w_to, MT_.w_frm, MT_.w_kind, MT_.w_number, MT_.w_sign, MT_.w_word, nqM_rd, nqM_rn, nqM_taped, nqM_mfault, nqM_mplace, nqM_told, nqM_hl, nqM_hd, NR_.w_rd, NR_.w_rn, NR_.w_taped, NR_.w_mfault, NR_.w_mplace, NR_.w_told, NR_.w_hl, NR_.w_hd] at hQ_66); (try simp only [hx_74, f_75, (eq_true h_76), hx_78, f_79, if_true, if_false, mqM_tp, mqM_size, mqM_limit, mqM_to, mqM_frm, mqM_kind, mqM_number, mqM_sign, mqM_word, MT_.w_tp, MT_.w_size, MT_.w_limit, MT_.w_to, MT_.w_frm, MT_.w_kind, MT_.w_number, MT_.w_sign, MT_.w_word, nqM_rd, nqM_rn, nqM_taped, nqM_mfault, nqM_mplace, nqM_told, nqM_hl, nqM_hd, NR_.w_rd, NR_.w_rn, NR_.w_taped, NR_.w_mfault, NR_.w_mplace, NR_.w_told, NR_.w_hl, NR_.w_hd] at hQ_67); (try simp only [hx_74, f_75, (eq_true h_76), hx_78, f_79, if_true, if_false, mqM_tp, mqM_size, mqM_limit, mqM_to, mqM_frm, mqM_kind, mqM_number, mqM_sign, mqM_word, MT_.w_tp, MT_.w_size, MT_.w_limit, MT_.w_to, MT_.w_frm, MT_.w_kind, MT_.w_number, MT_.w_sign, MT_.w_word, nqM_rd, nqM_rn, nqM_taped, nqM_mfault, nqM_mplace, nqM_told, nqM_hl, nqM_hd, NR_.w_rd, NR_.w_rn, NR_.w_taped, NR_.w_mfault, NR_.w_mplace, NR_.w_told, NR_.w_hl, NR_.w_hd] at hQ_68); (try simp only [hx_74, f_75, (eq_true h_76), hx_78, f_79, if_true, if_false, mqM_tp, mqM_size, mqM_limit, mqM_to, mqM_frm, mqM_kind, mqM_number, mqM_sign, mqM_word, MT_.w_tp, MT_.w_size, MT_.w_limit, MT_.w_to, MT_.w_frm, MT_.w_kind, MT_.w_number, MT_.w_sign, MT_.w_word, nqM_rd, nqM_rn, nqM_taped, nqM_mfault, nqM_mplace, nqM_told, nqM_hl, nqM_hd, NR_.w_rd, NR_.w_rn, NR_.w_taped, NR_.w_mfault, NR_.w_mplace, NR_.w_told, NR_.w_hl, NR_.w_hd] at hQ_69); (try simp only [hx_74, f_75, (eq_true h_76), hx_78, f_79, if_true, if_false, mqM_tp, mqM_size, mqM_limit, mqM_to, mqM_frm, mqM_kind, mqM_number, mqM_sign, mqM_word, MT_.w_tp, MT_.w_size, MT_.w_limit, MT_.w_to, MT_.w_frm, MT_.w_kind, MT_.w_number, MT_.w_sign, MT_.w_word, nqM_rd, nqM_rn, nqM_taped, nqM_mfault, nqM_mplace, nqM_told, nqM_hl, nqM_hd, NR_.w_rd, NR_.w_rn, NR_.w_taped, NR_.w_mfault, NR_.w_mplace, NR_.w_told, NR_.w_hl, NR_.w_hd] at u_70); (try simp only [hx_74, f_75, (eq_true h_76), hx_78, f_79, if_true, if_false, mqM_tp, mqM_size, mqM_limit, mqM_to, mqM_frm, mqM_kind, mqM_number, mqM_sign, mqM_word, MT_.w_tp, MT_.w_size, MT_.w_limit, MT_.w_to, MT_.w_frm, MT_.w_kind, MT_.w_number, MT_.w_sign, MT_.w_word, nqM_rd, nqM_rn, nqM_taped, nqM_mfault, nqM_mplace, nqM_told, nqM_hl, nqM_hd, NR_.w_rd, NR_.w_rn, NR_.w_taped, NR_.w_mfault, NR_.w_mplace, NR_.w_told, NR_.w_hl, NR_.w_hd] at u_71); (try simp only [hx_74, f_75, (eq_true h_76), hx_78, f_79, if_true, if_false, mqM_tp, mqM_size, mqM_limit, mqM_to, mqM_frm, mqM_kind, mqM_number, mqM_sign, mqM_word, MT_.w_tp, MT_.w_size, MT_.w_limit, MT_.w_to, MT_.w_frm, MT_.w_kind, MT_.w_number, MT_.w_sign, MT_.w_word, nqM_rd, nqM_rn, nqM_taped, nqM_mfault, nqM_mplace, nqM_told, nqM_hl, nqM_hd, NR_.w_rd, NR_.w_rn, NR_.w_taped, NR_.w_mfault, NR_.w_mplace, NR_.w_told, NR_.w_hl, NR_.w_hd] at u_72); (try simp only [hx_74, f_75, (eq_true h_76), hx_78, f_79, if_true, if_false, mqM_tp, mqM_size, mqM_limit, mqM_to, mqM_frm, mqM_kind, mqM_number, mqM_sign, mqM_word, MT_.w_tp, MT_.w_size, MT_.w_limit, MT_.w_to, MT_.w_frm, MT_.w_kind, MT_.w_number, MT_.w_sign, MT_.w_word, nqM_rd, nqM_rn, nqM_taped, nqM_mfault, nqM_mplace, nqM_told, nqM_hl, nqM_hd, NR_.w_rd, NR_.w_rn, NR_.w_taped, NR_.w_mfault, NR_.w_mplace, NR_.w_told, NR_.w_hl, NR_.w_hd] at u_73); simp only [emqx, hs_64, hs_7, enqx, hs_65, hs_8, hQ_66, hQ_67, hQ_68, hQ_69, u_70, u_71, u_72, u_73, hx_74, f_75, (eq_true h_76), hx_78, f_79, if_true, if_false, mqM_tp, mqM_size, mqM_limit, mqM_to, mqM_frm, mqM_kind, mqM_number, mqM_sign, mqM_word, MT_.w_tp, MT_.w_size, MT_.w_limit, MT_.w_to, MT_.w_frm, MT_.w_kind, MT_.w_number, MT_.w_sign, MT_.w_word, nqM_rd, nqM_rn, nqM_taped, nqM_mfault, nqM_mplace, nqM_told, nqM_hl, nqM_hd, NR_.w_rd, NR_.w_rn, NR_.w_taped, NR_.w_mfault, NR_.w_mplace, NR_.w_told, NR_.w_hl, NR_.w_hd]
        have rdj_84 : ∀ j, I_51 b_4 j = (s_65.rd) j := fun j => congrFun (congrArg NR_.rd hs_65) j
        refine g_iconst C (v := 0) dX12_table_74 (by decide) ?_
        refine g_istore_n C dX12_table_75 rfl (by decide) (lo2 := [(2, .int 0), (0, .ref x), (1, .int v_56)]) rfl ?_
        refine g_lo (is := [1, 2, 0]) (lo2 := [(0, .ref x), (1, .int v_56), (2, .int 0)]) rfl ?_
        have ex_76 : ∀ (I_86 : Nat → Nat → Int32) (hI_86 : I_86 = cpn_ I_51 b_4 b_5 (0) (0) 72) (v_85 : Int32) (rv_85 : Rg 72 72 v_85), WG p l e { frames := 7, cells := 0, slots := 0, locals := 154 } s m ([.ref x] : List Value).toArray below meth c 3 0 0 (MQ below (Qi_ D cy L κ ln R (fun r I2 J2 => Iw L κ R ow I2 ∧ Fq L κ ow [1200, 1202, 1203, 1204, 1205, 1206, 1207, 1208, 1209, 1210, 1211, 1213, 1223, 1224, 1225, 83400, 83500] I I2 ∧ Fq L κ ow [1212, 83900, 84000] J J2 ∧ Rg (-2147483648) 2147483647 r ∧ (r = mTable (MTf R I J x) (NRf R I J x)) ∧ ((mTableB (MTf R I J x) (NRf R I J x) = none ∧ Hd_ R x I I2) ∨ Nt_ R x I2 (mTableB (MTf R I J x) (NRf R I J x))) ∧ ((mTableN (MTf R I J x) (NRf R I J x) = none ∧ Rj_ R x J J2) ∨ Ny_ R x J2 (mTableN (MTf R I J x) (NRf R I J x))) ∧ (I2 x 10 = mTableF (MTf R I J x) (NRf R I J x)))) ([.ref x] : List Value).toArray s 0 0 (Al_ L)) D cy (Al_ L) s.heap L κ ln R I_86 J_52 100 [(0, .ref x), (1, .int v_56), (2, .int v_85)] [] := by
          intro I_86 hI_86 v_85 rv_85
          have hF_87 := fq_cpn hF_54 hI_86 (ro_a hb_5k (by decide) hb_5o hkx rfl) (by decide) (by decide)
          have hU_88 := uw_cpn hU_53.1 hb_4L hI_86 (ro_a hb_5k (by decide) hb_5o hkx rfl) (ro_a hb_4k (by decide) hb_4o hkx rfl) (fun i _ => by rw [bn_834, bn_835]; exact ⟨Int.le_refl _, Int.le_refl _⟩)
          have hU_89 := iw_hd W9 hU_53 hU_88 hLx hkx hb_5 hI_86
          refine g_iconst C (v := 0) dX12_table_100 (by decide) ?_
          refine g_istore_n C dX12_table_101 rfl (by decide) (lo2 := [(2, .int 0), (0, .ref x), (1, .int v_56)]) rfl ?_
          refine g_lo (is := [1, 2, 0]) (lo2 := [(0, .ref x), (1, .int v_56), (2, .int 0)]) rfl ?_
          exact l_102 14 I_86 J_52 hU_89 hF_87 hG_55 v_56 0 (rg_w rc_0 (by decide) (by decide)) x_78 x_74 (r_77) (kp_cn (κ := κ) hI_86 (by rw [hkx, hb_5k]; decide) hx_78) (kp_cn (κ := κ) hI_86 (by rw [hkx, hb_5k]; decide) hx_74) (by (try simp only [hx_74, f_75, (eq_true h_76), hx_78, f_79, if_true, if_false, mqM_tp, mqM_size, mqM_limit, mqM_to, mqM_frm, mqM_kind, mqM_number, mqM_sign, mqM_word, MT_.w_tp, MT_.w_size, MT_.w_limit, MT_.w_to, MT_.w_frm, MT_.w_kind, MT_.w_number, MT_.w_sign, MT_.w_word, nqM_rd, nqM_rn, nqM_taped, nqM_mfault, nqM_mplace, nqM_told, nqM_hl, nqM_hd, NR_.w_rd, NR_.w_rn, NR_.w_taped, NR_.w_mfault, NR_.w_mplace, NR_.w_told, NR_.w_hl, NR_.w_hd] at hQ_66); (try simp only [hx_74, f_75, (eq_true h_76), hx_78, f_79, if_true, if_false, mqM_tp, mqM_size, mqM_limit, mqM_to, mqM_frm, mqM_kind, mqM_number, mqM_sign, mqM_word, MT_.w_tp, MT_.w_size, MT_.w_limit, MT_.w_to, MT_.w_frm, MT_.w_kind, MT_.w_number, MT_.w_sign, MT_.w_word, nqM_rd, nqM_rn, nqM_taped, nqM_mfault, nqM_mplace, nqM_told, nqM_hl, nqM_hd, NR_.w_rd, NR_.w_rn, NR_.w_taped, NR_.w_mfault, NR_.w_mplace, NR_.w_told, NR_.w_hl, NR_.w_hd] at hQ_67); (try simp only [hx_74, f_75, (eq_true h_76), hx_78, f_79, if_true, if_false, mqM_tp, mqM_size, mqM_limit, mqM_to, mqM_frm, mqM_kind, mqM_number, mqM_sign, mqM_word, MT_.w_tp, MT_.w_size, MT_.w_limit, MT_.w_to, MT_.w_frm, MT_.w_kind, MT_.w_number, MT_.w_sign, MT_.w_word, nqM_rd, nqM_rn, nqM_taped, nqM_mfault, nqM_mplace, nqM_told, nqM_hl, nqM_hd, NR_.w_rd, NR_.w_rn, NR_.w_taped, NR_.w_mfault, NR_.w_mplace, NR_.w_told, NR_.w_hl, NR_.w_hd] at hQ_68); (try simp only [hx_74, f_75, (eq_true h_76), hx_78, f_79, if_true, if_false, mqM_tp, mqM_size, mqM_limit, mqM_to, mqM_frm, mqM_kind, mqM_number, mqM_sign, mqM_word, MT_.w_tp, MT_.w_size, MT_.w_limit, MT_.w_to, MT_.w_frm, MT_.w_kind, MT_.w_number, MT_.w_sign, MT_.w_word, nqM_rd, nqM_rn, nqM_taped, nqM_mfault, nqM_mplace, nqM_told, nqM_hl, nqM_hd, NR_.w_rd, NR_.w_rn, NR_.w_taped, NR_.w_mfault, NR_.w_mplace, NR_.w_told, NR_.w_hl, NR_.w_hd] at hQ_69); (try simp only [hx_74, f_75, (eq_true h_76), hx_78, f_79, if_true, if_false, mqM_tp, mqM_size, mqM_limit, mqM_to, mqM_frm, mqM_kind, mqM_number, mqM_sign, mqM_word, MT_.w_tp, MT_.w_size, MT_.w_limit, MT_.w_to, MT_.w_frm, MT_.w_kind, MT_.w_number, MT_.w_sign, MT_.w_word, nqM_rd, nqM_rn, nqM_taped, nqM_mfault, nqM_mplace, nqM_told, nqM_hl, nqM_hd, NR_.w_rd, NR_.w_rn, NR_.w_taped, NR_.w_mfault, NR_.w_mplace, NR_.w_told, NR_.w_hl, NR_.w_hd] at u_70); (try simp only [hx_74, f_75, (eq_true h_76), hx_78, f_79, if_true, if_false, mqM_tp, mqM_size, mqM_limit, mqM_to, mqM_frm, mqM_kind, mqM_number, mqM_sign, mqM_word, MT_.w_tp, MT_.w_size, MT_.w_limit, MT_.w_to, MT_.w_frm, MT_.w_kind, MT_.w_number, MT_.w_sign, MT_.w_word, nqM_rd, nqM_rn, nqM_taped, nqM_mfault, nqM_mplace, nqM_told, nqM_hl, nqM_hd, NR_.w_rd, NR_.w_rn, NR_.w_taped, NR_.w_mfault, NR_.w_mplace, NR_.w_told, NR_.w_hl, NR_.w_hd] at u_71); (try simp only [hx_74, f_75, (eq_true h_76), hx_78, f_79, if_true, if_false, mqM_tp, mqM_size, mqM_limit, mqM_to, mqM_frm, mqM_kind, mqM_number, mqM_sign, mqM_word, MT_.w_tp, MT_.w_size, MT_.w_limit, MT_.w_to, MT_.w_frm, MT_.w_kind, MT_.w_number, MT_.w_sign, MT_.w_word, nqM_rd, nqM_rn, nqM_taped, nqM_mfault, nqM_mplace, nqM_told, nqM_hl, nqM_hd, NR_.w_rd, NR_.w_rn, NR_.w_taped, NR_.w_mfault, NR_.w_mplace, NR_.w_told, NR_.w_hl, NR_.w_hd] at u_72); (try simp only [hx_74, f_75, (eq_true h_76), hx_78, f_79, if_true, if_false, mqM_tp, mqM_size, mqM_limit, mqM_to, mqM_frm, mqM_kind, mqM_number, mqM_sign, mqM_word, MT_.w_tp, MT_.w_size, MT_.w_limit, MT_.w_to, MT_.w_frm, MT_.w_kind, MT_.w_number, MT_.w_sign, MT_.w_word, nqM_rd, nqM_rn, nqM_taped, nqM_mfault, nqM_mplace, nqM_told, nqM_hl, nqM_hd, NR_.w_rd, NR_.w_rn, NR_.w_taped, NR_.w_mfault, NR_.w_mplace, NR_.w_told, NR_.w_hl, NR_.w_hd] at u_73); simp only [emqx, hs_7, enqx, hs_8, hQ_66, hQ_67, hQ_68, hQ_69, u_70, u_71, u_72, u_73, hx_74, f_75, (eq_true h_76), hx_78, f_79, if_true, if_false, mqM_tp, mqM_size, mqM_limit, mqM_to, mqM_frm, mqM_kind, mqM_number, mqM_sign, mqM_word, MT_.w_tp, MT_.w_size, MT_.w_limit, MT_.w_to, MT_.w_frm, MT_.w_kind, MT_.w_number, MT_.w_sign, MT_.w_word, nqM_rd, nqM_rn, nqM_taped, nqM_mfault, nqM_mplace, nqM_told, nqM_hl, nqM_hd, NR_.w_rd, NR_.w_rn, NR_.w_taped, NR_.w_mfault, NR_.w_mplace, NR_.w_told, NR_.w_hl, NR_.w_hd]) (nt_new tb_83 hb_5 rdj_84 hI_86) (nx_0 (by decide) tb_81 hb_2 rnj_82) (Eq.trans (kp_cn (κ := κ) hI_86 (by rw [hkx, hb_5k]; decide) hx_78) (mf_80.symm.trans hzf)) (ms_s (a := 0) (b := 13) (N := 14) (rg_w rc_0 (by decide) (by decide)) (by decide))
        have l_76 : ∀ (m_76 : Nat) (v_90 : Int32) (I_91 : Nat → Nat → Int32), v_90.toInt + (m_76 : Int) = 72 → 0 ≤ v_90.toInt → I_91 = cpn_ I_51 b_4 b_5 (0) (0) v_90.toNatClampNeg → WG p l e { frames := 7, cells := 0, slots := 0, locals := 154 } s m ([.ref x] : List Value).toArray below meth c 3 0 0 (MQ below (Qi_ D cy L κ ln R (fun r I2 J2 => Iw L κ R ow I2 ∧ Fq L κ ow [1200, 1202, 1203, 1204, 1205, 1206, 1207, 1208, 1209, 1210, 1211, 1213, 1223, 1224, 1225, 83400, 83500] I I2 ∧ Fq L κ ow [1212, 83900, 84000] J J2 ∧ Rg (-2147483648) 2147483647 r ∧ (r = mTable (MTf R I J x) (NRf R I J x)) ∧ ((mTableB (MTf R I J x) (NRf R I J x) = none ∧ Hd_ R x I I2) ∨ Nt_ R x I2 (mTableB (MTf R I J x) (NRf R I J x))) ∧ ((mTableN (MTf R I J x) (NRf R I J x) = none ∧ Rj_ R x J J2) ∨ Ny_ R x J2 (mTableN (MTf R I J x) (NRf R I J x))) ∧ (I2 x 10 = mTableF (MTf R I J x) (NRf R I J x)))) ([.ref x] : List Value).toArray s 0 0 (Al_ L)) D cy (Al_ L) s.heap L κ ln R I_91 J_52 76 [(0, .ref x), (1, .int v_56), (2, .int v_90)] [] := by
          intro m_76
          induction m_76 with
          | zero =>
            intro v_90 I_91 hk_76 h0_76 hI_91
            have rv_90 : Rg 72 72 v_90 := by unfold Rg; omega
            refine g_iload_n C 2 dX12_table_76 rfl rfl ?_
            refine g_bipush C (v := 72) dX12_table_77 (by decide) ?_
            refine g_icmp_ge C (tgt := 100) dX12_table_79 (by decide) (fun h_92 => ?_) (fun h_92 => ?_)
            · skip
              refine g_lo (is := [0, 1, 2]) (lo2 := [(0, .ref x), (1, .int v_56), (2, .int v_90)]) rfl ?_
              exact ex_76 I_91 (hI_91.trans (congrArg (fun q => cpn_ I_51 b_4 b_5 (0) (0) q) (show v_90.toNatClampNeg = 72 from by have := ix_n rv_90 (by decide); have := rv_90.1; have := rv_90.2; omega))) v_90 rv_90
            · skip
              have r_93 := lt_l (hi := 71) (nle h_92) rv_90 rc_72 (by decide)
              exact rg_no r_93 (by decide)
          | succ m_76 ih_76 =>
            intro v_90 I_91 hk_76 h0_76 hI_91
            have rv_90 : Rg 0 71 v_90 := by unfold Rg; omega
            refine g_iload_n C 2 dX12_table_76 rfl rfl ?_
            refine g_bipush C (v := 72) dX12_table_77 (by decide) ?_
            refine g_icmp_ge C (tgt := 100) dX12_table_79 (by decide) (fun h_94 => ?_) (fun h_94 => ?_)
            · skip
              have r_95 := le_r (h_94) rc_72 rv_90
              exact rg_no r_95 (by decide)
            · skip
              refine g_aload_n C 0 dX12_table_82 rfl rfl ?_
              refine g_getR C K hLx hkx f_12_13 hb_5 dX12_table_83 ?_
              refine g_iload_n C 2 dX12_table_86 rfl rfl ?_
              refine g_aload_n C 0 dX12_table_87 rfl rfl ?_
              refine g_getR C K hLx hkx f_12_16 hb_4 dX12_table_88 ?_
              refine g_iload_n C 2 dX12_table_91 rfl rfl ?_
              obtain ⟨x_96, hx_96, rx_96⟩ := ex_any (z0 := I_91 b_4 (v_90.toNatClampNeg))
              refine h_iald C K hb_4L hb_4k (v := x_96) (v_90.toNatClampNeg) (rfl) (ix_0 rv_90 (by decide)) (ix_lt rv_90 (by decide) hb_4n (by decide)) hx_96 dX12_table_92 ?_
              refine h_iast C K hb_5L hb_5k (v_90.toNatClampNeg) (rfl) (ix_0 rv_90 (by decide)) (ix_lt rv_90 (by decide) hb_5n (by decide)) dX12_table_93 (fun I_97 hI_97 => ?_)
              obtain ⟨x_98, hx_98, rx_98, tx_98⟩ := ex_add (y := 1) 1 72 rv_90 rc_1 (by decide) (by decide) (by decide) (by decide)
              refine g_iinc C dX12_table_94 (k := 2) (v := x_98) rfl hx_98 (by decide) (lo2 := [(2, .int x_98), (0, .ref x), (1, .int v_56)]) rfl ?_
              refine g_goto C (tgt := 76) dX12_table_97 (by decide) ?_
              refine g_lo (is := [1, 2, 0]) (lo2 := [(0, .ref x), (1, .int v_56), (2, .int x_98)]) rfl ?_
              have kk_76 : x_98.toNatClampNeg = v_90.toNatClampNeg + 1 := by have q1 := ix_n rv_90 (by decide); have q2 := (ti_k tx_98 rc_1); have q3 : x_98.toNatClampNeg = x_98.toInt.toNat := rfl; omega
              exact ih_76 x_98 I_97 (by have := (ti_k tx_98 rc_1); omega) (by have := (ti_k tx_98 rc_1); omega) (by rw [kk_76]; exact cpn_s hI_91 hx_96 hI_97 (show v_90.toNatClampNeg = (0) + v_90.toNatClampNeg from by omega) (show v_90.toNatClampNeg = (0) + v_90.toNatClampNeg from by omega) (Or.inl (ne_ro (ro_a hb_4k (by decide) hb_4o hkx rfl) (ro_a hb_5k (by decide) hb_5o hkx rfl) (by decide))))
        exact l_76 72 0 I_51 (by decide) (by decide) cpn_0
      · skip
        have n_99 : ¬ x_74 = 0 := h_76
        have r_100 := ne_lo (lo := 1) n_99 rx_74 rc_0 rfl (by decide)
        refine g_aload_n C 0 dX12_table_47 rfl rfl ?_
        refine g_callVI C K (c_X12_readLine W9 hLx hkx   hU_53) hLx hkx (by decide) rfl v_12_219 rfl ⟨rfl, rfl⟩ ⟨Nat.le_of_ble_eq_true rfl, Nat.le_of_ble_eq_true rfl⟩ (Nat.le_of_ble_eq_true rfl) ⟨Nat.le_of_ble_eq_true rfl, Nat.le_of_ble_eq_true rfl⟩ dX12_table_48 rfl (st := []) (fun x_101 I_102 J_103 h_104 => ?_)
        obtain ⟨hUI_102, hFI_102, hGJ_103, rx_101, fx_101, ex_101⟩ := h_104
        have hF_105 := fq_tr hF_54 hFI_102 (by decide)
        have hG_106 := fq_tr hG_55 hGJ_103 (by decide)
        obtain ⟨s_108, hs_108⟩ : ∃ z, MTq I_102 J_103 x b_6 = z := ⟨_, rfl⟩
        obtain ⟨s_109, hs_109⟩ : ∃ z, NRq I_102 J_103 x b_4 b_2 = z := ⟨_, rfl⟩
        have c_107 : mReadLine (s_64) (s_65) = (x_101, s_108, s_109) := by have q := fx_101; simp only [emqx, enqx, hs_64, hs_65, hs_108, hs_109] at q; exact q.symm
        refine g_if_eq C (tgt := 61) dX12_table_51 (by decide) (fun h_110 => ?_) (fun h_110 => ?_)
        · skip
          have r_111 := (⟨(rx_101).1, (eq_rg (h_110) rc_0).2⟩ : Rg 0 0 x_101)
          refine g_iconst C (v := (-1)) dX12_table_61 (by decide) ?_
          refine g_aload_n C 0 dX12_table_62 rfl rfl ?_
          obtain ⟨x_112, hx_112, rx_112⟩ := ex_getw (I := I_102) (a := x) (j := 11) (lo := (-2147483648)) (hi := 2147483647) hUI_102.1 hLx (ro_o hkx (by decide)) rfl
          have f_113 : s_109.mplace = x_112 := (congrArg NR_.mplace hs_109).symm.trans hx_112
          refine g_getI C K hLx hkx f_12_143 (v := x_112) hx_112 dX12_table_63 ?_
          obtain ⟨x_114, hx_114, rx_114, tx_114⟩ := ex_sub (-2147483648) 2147483647 rc_m1 rx_112 (by decide) (by decide) (by decide) (by decide)
          refine g_isub C (v := x_114) dX12_table_66 hx_114 ?_
          have tb_115 : mTableB (MTf R I J x) (NRf R I J x) = none := by (try simp only [hx_74, f_75, h_76, c_107, (eq_true h_110), hx_112, f_113, hx_114, if_true, if_false, mqM_tp, mqM_size, mqM_limit, mqM_to, mqM_frm, mqM_kind, mqM_number, mqM_sign, mqM_word, MT_.w_tp, MT_.w_size, MT_.w_limit, MT_.w_to, MT_.w_frm, MT_.w_kind, MT_.w_number, MT_.w_sign, MT_.w_word, nqM_rd, nqM_rn, nqM_taped, nqM_mfault, nqM_mplace, nqM_told, nqM_hl, nqM_hd, NR_.w_rd, NR_.w_rn, NR_.w_taped, NR_.w_mfault, NR_.w_mplace, NR_.w_told, NR_.w_hl, NR_.w_hd] at hQ_66); (try simp only [hx_74, f_75, h_76, c_107, (eq_true h_110), hx_112, f_113, hx_114, if_true, if_false, mqM_tp, mqM_size, mqM_limit, mqM_to, mqM_frm, mqM_kind, mqM_number, mqM_sign, mqM_word, MT_.w_tp, MT_.w_size, MT_.w_limit, MT_.w_to, MT_.w_frm, MT_.w_kind, MT_.w_number, MT_.w_sign, MT_.w_word, nqM_rd, nqM_rn, nqM_taped, nqM_mfault, nqM_mplace, nqM_told, nqM_hl, nqM_hd, NR_.w_rd, NR_.w_rn, NR_.w_taped, NR_.w_mfault, NR_.w_mplace, NR_.w_told, NR_.w_hl, NR_.w_hd] at hQ_67); (try simp only [hx_74, f_75, h_76, c_107, (eq_true h_110), hx_112, f_113, hx_114, if_true, if_false, mqM_tp, mqM_size, mqM_limit, mqM_to, mqM_frm, mqM_kind, mqM_number, mqM_sign, mqM_word, MT_.w_tp, MT_.w_size, MT_.w_limit, MT_.w_to, MT_.w_frm, MT_.w_kind, MT_.w_number, MT_.w_sign, MT_.w_word, nqM_rd, nqM_rn, nqM_taped, nqM_mfault, nqM_mplace, nqM_told, nqM_hl, nqM_hd, NR_.w_rd, NR_.w_rn, NR_.w_taped, NR_.w_mfault, NR_.w_mplace, NR_.w_told, NR_.w_hl, NR_.w_hd] at hQ_68); (try simp only [hx_74, f_75, h_76, c_107, (eq_true h_110), hx_112, f_113, hx_114, if_true, if_false, mqM_tp, mqM_size, mqM_limit, mqM_to, mqM_frm, mqM_kind, mqM_number, mqM_sign, mqM_word, MT_.w_tp, MT_.w_size, MT_.w_limit, MT_.w_to, MT_.w_frm, MT_.w_kind, MT_.w_number, MT_.w_sign, MT_.w_word, nqM_rd, nqM_rn, nqM_taped, nqM_mfault, nqM_mplace, nqM_told, nqM_hl, nqM_hd, NR_.w_rd, NR_.w_rn, NR_.w_taped, NR_.w_mfault, NR_.w_mplace, NR_.w_told, NR_.w_hl, NR_.w_hd] at hQ_69); (try simp only [hx_74, f_75, h_76, c_107, (eq_true h_110), hx_112, f_113, hx_114, if_true, if_false, mqM_tp, mqM_size, mqM_limit, mqM_to, mqM_frm, mqM_kind, mqM_number, mqM_sign, mqM_word, MT_.w_tp, MT_.w_size, MT_.w_limit, MT_.w_to, MT_.w_frm, MT_.w_kind, MT_.w_number, MT_.w_sign, MT_.w_word, nqM_rd, nqM_rn, nqM_taped, nqM_mfault, nqM_mplace, nqM_told, nqM_hl, nqM_hd, NR_.w_rd, NR_.w_rn, NR_.w_taped, NR_.w_mfault, NR_.w_mplace, NR_.w_told, NR_.w_hl, NR_.w_hd] at u_70); (try simp only [hx_74, f_75, h_76, c_107, (eq_true h_110), hx_112, f_113, hx_114, if_true, if_false, mqM_tp, mqM_size, mqM_limit, mqM_to, mqM_frm, mqM_kind, mqM_number, mqM_sign, mqM_word, MT_.w_tp, MT_.w_size, MT_.w_limit, MT_.w_to, MT_.w_frm, MT_.w_kind, MT_.w_number, MT_.w_sign, MT_.w_word, nqM_rd, nqM_rn, nqM_taped, nqM_mfault, nqM_mplace, nqM_told, nqM_hl, nqM_hd, NR_.w_rd, NR_.w_rn, NR_.w_taped, NR_.w_mfault, NR_.w_mplace, NR_.w_told, NR_.w_hl, NR_.w_hd] at u_71); (try simp only [hx_74, f_75, h_76, c_107, (eq_true h_110), hx_112, f_113, hx_114, if_true, if_false, mqM_tp, mqM_size, mqM_limit, mqM_to, mqM_frm, mqM_kind, mqM_number, mqM_sign, mqM_word, MT_.w_tp, MT_.w_size, MT_.w_limit, MT_.w_to, MT_.w_frm, MT_.w_kind, MT_.w_number, MT_.w_sign, MT_.w_word, nqM_rd, nqM_rn, nqM_taped, nqM_mfault, nqM_mplace, nqM_told, nqM_hl, nqM_hd, NR_.w_rd, NR_.w_rn, NR_.w_taped, NR_.w_mfault, NR_.w_mplace, NR_.w_told, NR_.w_hl, NR_.w_hd] at u_72); (try simp only [hx_74, f_75, h_76, c_107, (eq_true h_110), hx_112, f_113, hx_114, if_true, if_false, mqM_tp, mqM_size, mqM_limit, mqM_to, mqM_frm, mqM_kind, mqM_number, mqM_sign, mqM_word, MT_.w_tp, MT_.w_size, MT_.w_limit, MT_.w_to, MT_.w_frm, MT_.w_kind, MT_.w_number, MT_.w_sign, MT_.w_word, nqM_rd, nqM_rn, nqM_taped, nqM_mfault, nqM_mplace, nqM_told, nqM_hl, nqM_hd, NR_.w_rd, NR_.w_rn, NR_.w_taped, NR_.w_mfault, NR_.w_mplace, NR_.w_told, NR_.w_hl, NR_.w_hd] at u_73); simp only [emqx, hs_108, hs_7, enqx, hs_109, hs_8, hQ_66, hQ_67, hQ_68, hQ_69, u_70, u_71, u_72, u_73, hx_74, f_75, h_76, c_107, (eq_true h_110), hx_112, f_113, hx_114, if_true, if_false, mqM_tp, mqM_size, mqM_limit, mqM_to, mqM_frm, mqM_kind, mqM_number, mqM_sign, mqM_word, MT_.w_tp, MT_.w_size, MT_.w_limit, MT_.w_to, MT_.w_frm, MT_.w_kind, MT_.w_number, MT_.w_sign, MT_.w_word, nqM_rd, nqM_rn, nqM_taped, nqM_mfault, nqM_mplace, nqM_told, nqM_hl, nqM_hd, NR_.w_rd, NR_.w_rn, NR_.w_taped, NR_.w_mfault, NR_.w_mplace, NR_.w_told, NR_.w_hl, NR_.w_hd]
          have tb_116 : mTableN (MTf R I J x) (NRf R I J x) = none := by (try simp only [hx_74, f_75, h_76, c_107, (eq_true h_110), hx_112, f_113, hx_114, if_true, if_false, mqM_tp, mqM_size, mqM_limit, mqM_to, mqM_frm, mqM_kind, mqM_number, mqM_sign, mqM_word, MT_.w_tp, MT_.w_size, MT_.w_limit, MT_.w_to, MT_.w_frm, MT_.w_kind, MT_.w_number, MT_.w_sign, MT_.w_word, nqM_rd, nqM_rn, nqM_taped, nqM_mfault, nqM_mplace, nqM_told, nqM_hl, nqM_hd, NR_.w_rd, NR_.w_rn, NR_.w_taped, NR_.w_mfault, NR_.w_mplace, NR_.w_told, NR_.w_hl, NR_.w_hd] at hQ_66); (try simp only [hx_74, f_75, h_76, c_107, (eq_true h_110), hx_112, f_113, hx_114, if_true, if_false, mqM_tp, mqM_size, mqM_limit, mqM_to, mqM_frm, mqM_kind, mqM_number, mqM_sign, mqM_word, MT_.w_tp, MT_.w_size, MT_.w_limit, MT_.w_to, MT_.w_frm, MT_.w_kind, MT_.w_number, MT_.w_sign, MT_.w_word, nqM_rd, nqM_rn, nqM_taped, nqM_mfault, nqM_mplace, nqM_told, nqM_hl, nqM_hd, NR_.w_rd, NR_.w_rn, NR_.w_taped, NR_.w_mfault, NR_.w_mplace, NR_.w_told, NR_.w_hl, NR_.w_hd] at hQ_67); (try simp only [hx_74, f_75, h_76, c_107, (eq_true h_110), hx_112, f_113, hx_114, if_true, if_false, mqM_tp, mqM_size, mqM_limit, mqM_to, mqM_frm, mqM_kind, mqM_number, mqM_sign, mqM_word, MT_.w_tp, MT_.w_size, MT_.w_limit, MT_.w_to, MT_.w_frm, MT_.w_kind, MT_.w_number, MT_.w_sign, MT_.w_word, nqM_rd, nqM_rn, nqM_taped, nqM_mfault, nqM_mplace, nqM_told, nqM_hl, nqM_hd, NR_.w_rd, NR_.w_rn, NR_.w_taped, NR_.w_mfault, NR_.w_mplace, NR_.w_told, NR_.w_hl, NR_.w_hd] at hQ_68); (try simp only [hx_74, f_75, h_76, c_107, (eq_true h_110), hx_112, f_113, hx_114, if_true, if_false, mqM_tp, mqM_size, mqM_limit, mqM_to, mqM_frm, mqM_kind, mqM_number, mqM_sign, mqM_word, MT_.w_tp, MT_.w_size, MT_.w_limit, MT_.w_to, MT_.w_frm, MT_.w_kind, MT_.w_number, MT_.w_sign, MT_.w_word, nqM_rd, nqM_rn, nqM_taped, nqM_mfault, nqM_mplace, nqM_told, nqM_hl, nqM_hd, NR_.w_rd, NR_.w_rn, NR_.w_taped, NR_.w_mfault, NR_.w_mplace, NR_.w_told, NR_.w_hl, NR_.w_hd] at hQ_69); (try simp only [hx_74, f_75, h_76, c_107, (eq_true h_110), hx_112, f_113, hx_114, if_true, if_false, mqM_tp, mqM_size, mqM_limit, mqM_to, mqM_frm, mqM_kind, mqM_number, mqM_sign, mqM_word, MT_.w_tp, MT_.w_size, MT_.w_limit, MT_.w_to, MT_.w_frm, MT_.w_kind, MT_.w_number, MT_.w_sign, MT_.w_word, nqM_rd, nqM_rn, nqM_taped, nqM_mfault, nqM_mplace, nqM_told, nqM_hl, nqM_hd, NR_.w_rd, NR_.w_rn, NR_.w_taped, NR_.w_mfault, NR_.w_mplace, NR_.w_told, NR_.w_hl, NR_.w_hd] at u_70); (try simp only [hx_74, f_75, h_76, c_107, (eq_true h_110), hx_112, f_113, hx_114, if_true, if_false, mqM_tp, mqM_size, mqM_limit, mqM_to, mqM_frm, mqM_kind, mqM_number, mqM_sign, mqM_word, MT_.w_tp, MT_.w_size, MT_.w_limit, MT_.w_to, MT_.w_frm, MT_.w_kind, MT_.w_number, MT_.w_sign, MT_.w_word, nqM_rd, nqM_rn, nqM_taped, nqM_mfault, nqM_mplace, nqM_told, nqM_hl, nqM_hd, NR_.w_rd, NR_.w_rn, NR_.w_taped, NR_.w_mfault, NR_.w_mplace, NR_.w_told, NR_.w_hl, NR_.w_hd] at u_71); (try simp only [hx_74, f_75, h_76, c_107, (eq_true h_110), hx_112, f_113, hx_114, if_true, if_false, mqM_tp, mqM_size, mqM_limit, mqM_to, mqM_frm, mqM_kind, mqM_number, mqM_sign, mqM_word, MT_.w_tp, MT_.w_size, MT_.w_limit, MT_.w_to, MT_.w_frm, MT_.w_kind, MT_.w_number, MT_.w_sign, MT_.w_word, nqM_rd, nqM_rn, nqM_taped, nqM_mfault, nqM_mplace, nqM_told, nqM_hl, nqM_hd, NR_.w_rd, NR_.w_rn, NR_.w_taped, NR_.w_mfault, NR_.w_mplace, NR_.w_told, NR_.w_hl, NR_.w_hd] at u_72); (try simp only [hx_74, f_75, h_76, c_107, (eq_true h_110), hx_112, f_113, hx_114, if_true, if_false, mqM_tp, mqM_size, mqM_limit, mqM_to, mqM_frm, mqM_kind, mqM_number, mqM_sign, mqM_word, MT_.w_tp, MT_.w_size, MT_.w_limit, MT_.w_to, MT_.w_frm, MT_.w_kind, MT_.w_number, MT_.w_sign, MT_.w_word, nqM_rd, nqM_rn, nqM_taped, nqM_mfault, nqM_mplace, nqM_told, nqM_hl, nqM_hd, NR_.w_rd, NR_.w_rn, NR_.w_taped, NR_.w_mfault, NR_.w_mplace, NR_.w_told, NR_.w_hl, NR_.w_hd] at u_73); simp only [emqx, hs_108, hs_7, enqx, hs_109, hs_8, hQ_66, hQ_67, hQ_68, hQ_69, u_70, u_71, u_72, u_73, hx_74, f_75, h_76, c_107, (eq_true h_110), hx_112, f_113, hx_114, if_true, if_false, mqM_tp, mqM_size, mqM_limit, mqM_to, mqM_frm, mqM_kind, mqM_number, mqM_sign, mqM_word, MT_.w_tp, MT_.w_size, MT_.w_limit, MT_.w_to, MT_.w_frm, MT_.w_kind, MT_.w_number, MT_.w_sign, MT_.w_word, nqM_rd, nqM_rn, nqM_taped, nqM_mfault, nqM_mplace, nqM_told, nqM_hl, nqM_hd, NR_.w_rd, NR_.w_rn, NR_.w_taped, NR_.w_mfault, NR_.w_mplace, NR_.w_told, NR_.w_hl, NR_.w_hd]
          obtain ⟨x_117, hx_117, rx_117⟩ := ex_getw (I := I_102) (a := x) (j := 10) (lo := (-2147483648)) (hi := 2147483647) hUI_102.1 hLx (ro_o hkx (by decide)) rfl
          have f_118 : s_109.mfault = x_117 := (congrArg NR_.mfault hs_109).symm.trans hx_117
          have mf_119 : mTableF (MTf R I J x) (NRf R I J x) = x_117 := by (try simp only [hx_74, f_75, h_76, c_107, (eq_true h_110), hx_112, f_113, hx_114, hx_117, f_118, if_true, if_false, mqM_tp, mqM_size, mqM_limit, mqM_to, mqM_frm, mqM_kind, mqM_number, mqM_sign, mqM_word, MT_.w_tp, MT_.w_size, MT_.w_limit, MT_.w_to, MT_.w_frm, MT_.w_kind, MT_.w_number, MT_.w_sign, MT_.w_word, nqM_rd, nqM_rn, nqM_taped, nqM_mfault, nqM_mplace, nqM_told, nqM_hl, nqM_hd, NR_.w_rd, NR_.w_rn, NR_.w_taped, NR_.w_mfault, NR_.w_mplace, NR_.w_told, NR_.w_hl, NR_.w_hd] at hQ_66); (try simp only [hx_74, f_75, h_76, c_107, (eq_true h_110), hx_112, f_113, hx_114, hx_117, f_118, if_true, if_false, mqM_tp, mqM_size, mqM_limit, mqM_to, mqM_frm, mqM_kind, mqM_number, mqM_sign, mqM_word, MT_.w_tp, MT_.w_size, MT_.w_limit, MT_.w_to, MT_.w_frm, MT_.w_kind, MT_.w_number, MT_.w_sign, MT_.w_word, nqM_rd, nqM_rn, nqM_taped, nqM_mfault, nqM_mplace, nqM_told, nqM_hl, nqM_hd, NR_.w_rd, NR_.w_rn, NR_.w_taped, NR_.w_mfault, NR_.w_mplace, NR_.w_told, NR_.w_hl, NR_.w_hd] at hQ_67); (try simp only [hx_74, f_75, h_76, c_107, (eq_true h_110), hx_112, f_113, hx_114, hx_117, f_118, if_true, if_false, mqM_tp, mqM_size, mqM_limit, mqM_to, mqM_frm, mqM_kind, mqM_number, mqM_sign, mqM_word, MT_.w_tp, MT_.w_size, MT_.w_limit, MT_.w_to, MT_.w_frm, MT_.w_kind, MT_.w_number, MT_.w_sign, MT_.w_word, nqM_rd, nqM_rn, nqM_taped, nqM_mfault, nqM_mplace, nqM_told, nqM_hl, nqM_hd, NR_.w_rd, NR_.w_rn, NR_.w_taped, NR_.w_mfault, NR_.w_mplace, NR_.w_told, NR_.w_hl, NR_.w_hd] at hQ_68); (try simp only [hx_74, f_75, h_76, c_107, (eq_true h_110), hx_112, f_113, hx_114, hx_117, f_118, if_true, if_false, mqM_tp, mqM_size, mqM_limit, mqM_to, mqM_frm, mqM_kind, mqM_number, mqM_sign, mqM_word, MT_.w_tp, MT_.w_size, MT_.w_limit, MT_.w_to, MT_.w_frm, MT_.w_kind, MT_.w_number, MT_.w_sign, MT_.w_word, nqM_rd, nqM_rn, nqM_taped, nqM_mfault, nqM_mplace, nqM_told, nqM_hl, nqM_hd, NR_.w_rd, NR_.w_rn, NR_.w_taped, NR_.w_mfault, NR_.w_mplace, NR_.w_told, NR_.w_hl, NR_.w_hd] at hQ_69); (try simp only [hx_74, f_75, h_76, c_107, (eq_true h_110), hx_112, f_113, hx_114, hx_117, f_118, if_true, if_false, mqM_tp, mqM_size, mqM_limit, mqM_to, mqM_frm, mqM_kind, mqM_number, mqM_sign, mqM_word, MT_.w_tp, MT_.w_size, MT_.w_limit, MT_.w_to, MT_.w_frm, MT_.w_kind, MT_.w_number, MT_.w_sign, MT_.w_word, nqM_rd, nqM_rn, nqM_taped, nqM_mfault, nqM_mplace, nqM_told, nqM_hl, nqM_hd, NR_.w_rd, NR_.w_rn, NR_.w_taped, NR_.w_mfault, NR_.w_mplace, NR_.w_told, NR_.w_hl, NR_.w_hd] at u_70); (try simp only [hx_74, f_75, h_76, c_107, (eq_true h_110), hx_112, f_113, hx_114, hx_117, f_118, if_true, if_false, mqM_tp, mqM_size, mqM_limit, mqM_to, mqM_frm, mqM_kind, mqM_number, mqM_sign, mqM_word, MT_.w_tp, MT_.w_size, MT_.w_limit, MT_.w_to, MT_.w_frm, MT_.w_kind, MT_.w_number, MT_.w_sign, MT_.w_word, nqM_rd, nqM_rn, nqM_taped, nqM_mfault, nqM_mplace, nqM_told, nqM_hl, nqM_hd, NR_.w_rd, NR_.w_rn, NR_.w_taped, NR_.w_mfault, NR_.w_mplace, NR_.w_told, NR_.w_hl, NR_.w_hd] at u_71); (try simp only [hx_74, f_75, h_76, c_107, (eq_true h_110), hx_112, f_113, hx_114, hx_117, f_118, if_true, if_false, mqM_tp, mqM_size, mqM_limit, mqM_to, mqM_frm, mqM_kind, mqM_number, mqM_sign, mqM_word, MT_.w_tp, MT_.w_size, MT_.w_limit, MT_.w_to, MT_.w_frm, MT_.w_kind, MT_.w_number, MT_.w_sign, MT_.w_word, nqM_rd, nqM_rn, nqM_taped, nqM_mfault, nqM_mplace, nqM_told, nqM_hl, nqM_hd, NR_.w_rd, NR_.w_rn, NR_.w_taped, NR_.w_mfault, NR_.w_mplace, NR_.w_told, NR_.w_hl, NR_.w_hd] at u_72); (try simp only [hx_74, f_75, h_76, c_107, (eq_true h_110), hx_112, f_113, hx_114, hx_117, f_118, if_true, if_false, mqM_tp, mqM_size, mqM_limit, mqM_to, mqM_frm, mqM_kind, mqM_number, mqM_sign, mqM_word, MT_.w_tp, MT_.w_size, MT_.w_limit, MT_.w_to, MT_.w_frm, MT_.w_kind, MT_.w_number, MT_.w_sign, MT_.w_word, nqM_rd, nqM_rn, nqM_taped, nqM_mfault, nqM_mplace, nqM_told, nqM_hl, nqM_hd, NR_.w_rd, NR_.w_rn, NR_.w_taped, NR_.w_mfault, NR_.w_mplace, NR_.w_told, NR_.w_hl, NR_.w_hd] at u_73); simp only [emqx, hs_108, hs_7, enqx, hs_109, hs_8, hQ_66, hQ_67, hQ_68, hQ_69, u_70, u_71, u_72, u_73, hx_74, f_75, h_76, c_107, (eq_true h_110), hx_112, f_113, hx_114, hx_117, f_118, if_true, if_false, mqM_tp, mqM_size, mqM_limit, mqM_to, mqM_frm, mqM_kind, mqM_number, mqM_sign, mqM_word, MT_.w_tp, MT_.w_size, MT_.w_limit, MT_.w_to, MT_.w_frm, MT_.w_kind, MT_.w_number, MT_.w_sign, MT_.w_word, nqM_rd, nqM_rn, nqM_taped, nqM_mfault, nqM_mplace, nqM_told, nqM_hl, nqM_hd, NR_.w_rd, NR_.w_rn, NR_.w_taped, NR_.w_mfault, NR_.w_mplace, NR_.w_told, NR_.w_hl, NR_.w_hd]
          exact g_zret (ty := .int) (r := x_114) B K rfl (rfl) ⟨hUI_102, hF_105, hG_106, rx_114, (by (try simp only [hx_74, f_75, h_76, c_107, (eq_true h_110), hx_112, f_113, hx_114, if_true, if_false, mqM_tp, mqM_size, mqM_limit, mqM_to, mqM_frm, mqM_kind, mqM_number, mqM_sign, mqM_word, MT_.w_tp, MT_.w_size, MT_.w_limit, MT_.w_to, MT_.w_frm, MT_.w_kind, MT_.w_number, MT_.w_sign, MT_.w_word, nqM_rd, nqM_rn, nqM_taped, nqM_mfault, nqM_mplace, nqM_told, nqM_hl, nqM_hd, NR_.w_rd, NR_.w_rn, NR_.w_taped, NR_.w_mfault, NR_.w_mplace, NR_.w_told, NR_.w_hl, NR_.w_hd] at hQ_66); (try simp only [hx_74, f_75, h_76, c_107, (eq_true h_110), hx_112, f_113, hx_114, if_true, if_false, mqM_tp, mqM_size, mqM_limit, mqM_to, mqM_frm, mqM_kind, mqM_number, mqM_sign, mqM_word, MT_.w_tp, MT_.w_size, MT_.w_limit, MT_.w_to, MT_.w_frm, MT_.w_kind, MT_.w_number, MT_.w_sign, MT_.w_word, nqM_rd, nqM_rn, nqM_taped, nqM_mfault, nqM_mplace, nqM_told, nqM_hl, nqM_hd, NR_.w_rd, NR_.w_rn, NR_.w_taped, NR_.w_mfault, NR_.w_mplace, NR_.w_told, NR_.w_hl, NR_.w_hd] at hQ_67); (try simp only [hx_74, f_75, h_76, c_107, (eq_true h_110), hx_112, f_113, hx_114, if_true, if_false, mqM_tp, mqM_size, mqM_limit, mqM_to, mqM_frm, mqM_kind, mqM_number, mqM_sign, mqM_word, MT_.w_tp, MT_.w_size, MT_.w_limit, MT_.w_to, MT_.w_frm, MT_.w_kind, MT_.w_number, MT_.w_sign, MT_.w_word, nqM_rd, nqM_rn, nqM_taped, nqM_mfault, nqM_mplace, nqM_told, nqM_hl, nqM_hd, NR_.w_rd, NR_.w_rn, NR_.w_taped, NR_.w_mfault, NR_.w_mplace, NR_.w_told, NR_.w_hl, NR_.w_hd] at hQ_68); (try simp only [hx_74, f_75, h_76, c_107, (eq_true h_110), hx_112, f_113, hx_114, if_true, if_false, mqM_tp, mqM_size, mqM_limit, mqM_to, mqM_frm, mqM_kind, mqM_number, mqM_sign, mqM_word, MT_.w_tp, MT_.w_size, MT_.w_limit, MT_.w_to, MT_.w_frm, MT_.w_kind, MT_.w_number, MT_.w_sign, MT_.w_word, nqM_rd, nqM_rn, nqM_taped, nqM_mfault, nqM_mplace, nqM_told, nqM_hl, nqM_hd, NR_.w_rd, NR_.w_rn, NR_.w_taped, NR_.w_mfault, NR_.w_mplace, NR_.w_told, NR_.w_hl, NR_.w_hd] at hQ_69); (try simp only [hx_74, f_75, h_76, c_107, (eq_true h_110), hx_112, f_113, hx_114, if_true, if_false, mqM_tp, mqM_size, mqM_limit, mqM_to, mqM_frm, mqM_kind, mqM_number, mqM_sign, mqM_word, MT_.w_tp, MT_.w_size, MT_.w_limit, MT_.w_to, MT_.w_frm, MT_.w_kind, MT_.w_number, MT_.w_sign, MT_.w_word, nqM_rd, nqM_rn, nqM_taped, nqM_mfault, nqM_mplace, nqM_told, nqM_hl, nqM_hd, NR_.w_rd, NR_.w_rn, NR_.w_taped, NR_.w_mfault, NR_.w_mplace, NR_.w_told, NR_.w_hl, NR_.w_hd] at u_70); (try simp only [hx_74, f_75, h_76, c_107, (eq_true h_110), hx_112, f_113, hx_114, if_true, if_false, mqM_tp, mqM_size, mqM_limit, mqM_to, mqM_frm, mqM_kind, mqM_number, mqM_sign, mqM_word, MT_.w_tp, MT_.w_size, MT_.w_limit, MT_.w_to, MT_.w_frm, MT_.w_kind, MT_.w_number, MT_.w_sign, MT_.w_word, nqM_rd, nqM_rn, nqM_taped, nqM_mfault, nqM_mplace, nqM_told, nqM_hl, nqM_hd, NR_.w_rd, NR_.w_rn, NR_.w_taped, NR_.w_mfault, NR_.w_mplace, NR_.w_told, NR_.w_hl, NR_.w_hd] at u_71); (try simp only [hx_74, f_75, h_76, c_107, (eq_true h_110), hx_112, f_113, hx_114, if_true, if_false, mqM_tp, mqM_size, mqM_limit, mqM_to, mqM_frm, mqM_kind, mqM_number, mqM_sign, mqM_word, MT_.w_tp, MT_.w_size, MT_.w_limit, MT_.w_to, MT_.w_frm, MT_.w_kind, MT_.w_number, MT_.w_sign, MT_.w_word, nqM_rd, nqM_rn, nqM_taped, nqM_mfault, nqM_mplace, nqM_told, nqM_hl, nqM_hd, NR_.w_rd, NR_.w_rn, NR_.w_taped, NR_.w_mfault, NR_.w_mplace, NR_.w_told, NR_.w_hl, NR_.w_hd] at u_72); (try simp only [hx_74, f_75, h_76, c_107, (eq_true h_110), hx_112, f_113, hx_114, if_true, if_false, mqM_tp, mqM_size, mqM_limit, mqM_to, mqM_frm, mqM_kind, mqM_number, mqM_sign, mqM_word, MT_.w_tp, MT_.w_size, MT_.w_limit, MT_.w_to, MT_.w_frm, MT_.w_kind, MT_.w_number, MT_.w_sign, MT_.w_word, nqM_rd, nqM_rn, nqM_taped, nqM_mfault, nqM_mplace, nqM_told, nqM_hl, nqM_hd, NR_.w_rd, NR_.w_rn, NR_.w_taped, NR_.w_mfault, NR_.w_mplace, NR_.w_told, NR_.w_hl, NR_.w_hd] at u_73); simp only [emqx, hs_108, hs_7, enqx, hs_109, hs_8, hQ_66, hQ_67, hQ_68, hQ_69, u_70, u_71, u_72, u_73, hx_74, f_75, h_76, c_107, (eq_true h_110), hx_112, f_113, hx_114, if_true, if_false, mqM_tp, mqM_size, mqM_limit, mqM_to, mqM_frm, mqM_kind, mqM_number, mqM_sign, mqM_word, MT_.w_tp, MT_.w_size, MT_.w_limit, MT_.w_to, MT_.w_frm, MT_.w_kind, MT_.w_number, MT_.w_sign, MT_.w_word, nqM_rd, nqM_rn, nqM_taped, nqM_mfault, nqM_mplace, nqM_told, nqM_hl, nqM_hd, NR_.w_rd, NR_.w_rn, NR_.w_taped, NR_.w_mfault, NR_.w_mplace, NR_.w_told, NR_.w_hl, NR_.w_hd]), (Or.inl ⟨tb_115, (hd_fq W9 hLx hkx hd_61 hFI_102 (by decide))⟩), (Or.inl ⟨tb_116, (rj_fq W9 hLx hkx nx_62 hGJ_103 (by decide))⟩), (Eq.trans hx_117 mf_119.symm)⟩ dX12_table_67
        · skip
          have n_120 : ¬ x_101 = 0 := h_110
          have r_121 := ne_lo (lo := 1) n_120 rx_101 rc_0 rfl (by decide)
          refine g_aload_n C 0 dX12_table_54 rfl rfl ?_
          refine g_callVI C K (c_X12_readEnd W9 hLx hkx   hUI_102) hLx hkx (by decide) rfl v_12_222 rfl ⟨rfl, rfl⟩ ⟨Nat.le_of_ble_eq_true rfl, Nat.le_of_ble_eq_true rfl⟩ (Nat.le_of_ble_eq_true rfl) ⟨Nat.le_of_ble_eq_true rfl, Nat.le_of_ble_eq_true rfl⟩ dX12_table_55 rfl (st := []) (fun x_122 I_123 J_124 h_125 => ?_)
          obtain ⟨hUI_123, hFI_123, hGJ_124, rx_122, fx_122, ex_122⟩ := h_125
          have hF_126 := fq_tr hF_105 hFI_123 (by decide)
          have hG_127 := fq_tr hG_106 hGJ_124 (by decide)
          obtain ⟨s_129, hs_129⟩ : ∃ z, MTq I_123 J_124 x b_6 = z := ⟨_, rfl⟩
          obtain ⟨s_130, hs_130⟩ : ∃ z, NRq I_123 J_124 x b_4 b_2 = z := ⟨_, rfl⟩
          have c_128 : mReadEnd (s_108) (s_109) = (x_122, s_129, s_130) := by have q := fx_122; simp only [emqx, enqx, hs_108, hs_109, hs_129, hs_130] at q; exact q.symm
          refine g_if_ne C (tgt := 68) dX12_table_58 (by decide) (fun h_131 => ?_) (fun h_131 => ?_)
          · skip
            have n_132 : ¬ x_122 = 0 := h_131
            have r_133 := ne_lo (lo := 1) n_132 rx_122 rc_0 rfl (by decide)
            obtain ⟨x_134, hx_134, rx_134⟩ := ex_any (z0 := v_56 + 1)
            refine g_iinc C dX12_table_68 (k := 1) (v := x_134) rfl hx_134 (by decide) (lo2 := [(1, .int x_134), (0, .ref x)]) rfl ?_
            refine g_goto C (tgt := 40) dX12_table_71 (by decide) ?_
            refine g_lo (is := [1, 0]) (lo2 := [(0, .ref x), (1, .int x_134)]) rfl ?_
            exact ih_40 I_123 J_124 hUI_123 hF_126 hG_127 x_134 (by (try simp only [hx_74, f_75, h_76, c_107, h_110, c_128, h_131, hx_134, if_true, if_false, mqM_tp, mqM_size, mqM_limit, mqM_to, mqM_frm, mqM_kind, mqM_number, mqM_sign, mqM_word, MT_.w_tp, MT_.w_size, MT_.w_limit, MT_.w_to, MT_.w_frm, MT_.w_kind, MT_.w_number, MT_.w_sign, MT_.w_word, nqM_rd, nqM_rn, nqM_taped, nqM_mfault, nqM_mplace, nqM_told, nqM_hl, nqM_hd, NR_.w_rd, NR_.w_rn, NR_.w_taped, NR_.w_mfault, NR_.w_mplace, NR_.w_told, NR_.w_hl, NR_.w_hd] at hQ_66); (try simp only [hx_74, f_75, h_76, c_107, h_110, c_128, h_131, hx_134, if_true, if_false, mqM_tp, mqM_size, mqM_limit, mqM_to, mqM_frm, mqM_kind, mqM_number, mqM_sign, mqM_word, MT_.w_tp, MT_.w_size, MT_.w_limit, MT_.w_to, MT_.w_frm, MT_.w_kind, MT_.w_number, MT_.w_sign, MT_.w_word, nqM_rd, nqM_rn, nqM_taped, nqM_mfault, nqM_mplace, nqM_told, nqM_hl, nqM_hd, NR_.w_rd, NR_.w_rn, NR_.w_taped, NR_.w_mfault, NR_.w_mplace, NR_.w_told, NR_.w_hl, NR_.w_hd] at hQ_67); (try simp only [hx_74, f_75, h_76, c_107, h_110, c_128, h_131, hx_134, if_true, if_false, mqM_tp, mqM_size, mqM_limit, mqM_to, mqM_frm, mqM_kind, mqM_number, mqM_sign, mqM_word, MT_.w_tp, MT_.w_size, MT_.w_limit, MT_.w_to, MT_.w_frm, MT_.w_kind, MT_.w_number, MT_.w_sign, MT_.w_word, nqM_rd, nqM_rn, nqM_taped, nqM_mfault, nqM_mplace, nqM_told, nqM_hl, nqM_hd, NR_.w_rd, NR_.w_rn, NR_.w_taped, NR_.w_mfault, NR_.w_mplace, NR_.w_told, NR_.w_hl, NR_.w_hd] at hQ_68); (try simp only [hx_74, f_75, h_76, c_107, h_110, c_128, h_131, hx_134, if_true, if_false, mqM_tp, mqM_size, mqM_limit, mqM_to, mqM_frm, mqM_kind, mqM_number, mqM_sign, mqM_word, MT_.w_tp, MT_.w_size, MT_.w_limit, MT_.w_to, MT_.w_frm, MT_.w_kind, MT_.w_number, MT_.w_sign, MT_.w_word, nqM_rd, nqM_rn, nqM_taped, nqM_mfault, nqM_mplace, nqM_told, nqM_hl, nqM_hd, NR_.w_rd, NR_.w_rn, NR_.w_taped, NR_.w_mfault, NR_.w_mplace, NR_.w_told, NR_.w_hl, NR_.w_hd] at hQ_69); (try simp only [hx_74, f_75, h_76, c_107, h_110, c_128, h_131, hx_134, if_true, if_false, mqM_tp, mqM_size, mqM_limit, mqM_to, mqM_frm, mqM_kind, mqM_number, mqM_sign, mqM_word, MT_.w_tp, MT_.w_size, MT_.w_limit, MT_.w_to, MT_.w_frm, MT_.w_kind, MT_.w_number, MT_.w_sign, MT_.w_word, nqM_rd, nqM_rn, nqM_taped, nqM_mfault, nqM_mplace, nqM_told, nqM_hl, nqM_hd, NR_.w_rd, NR_.w_rn, NR_.w_taped, NR_.w_mfault, NR_.w_mplace, NR_.w_told, NR_.w_hl, NR_.w_hd] at u_70); (try simp only [hx_74, f_75, h_76, c_107, h_110, c_128, h_131, hx_134, if_true, if_false, mqM_tp, mqM_size, mqM_limit, mqM_to, mqM_frm, mqM_kind, mqM_number, mqM_sign, mqM_word, MT_.w_tp, MT_.w_size, MT_.w_limit, MT_.w_to, MT_.w_frm, MT_.w_kind, MT_.w_number, MT_.w_sign, MT_.w_word, nqM_rd, nqM_rn, nqM_taped, nqM_mfault, nqM_mplace, nqM_told, nqM_hl, nqM_hd, NR_.w_rd, NR_.w_rn, NR_.w_taped, NR_.w_mfault, NR_.w_mplace, NR_.w_told, NR_.w_hl, NR_.w_hd] at u_71); (try simp only [hx_74, f_75, h_76, c_107, h_110, c_128, h_131, hx_134, if_true, if_false, mqM_tp, mqM_size, mqM_limit, mqM_to, mqM_frm, mqM_kind, mqM_number, mqM_sign, mqM_word, MT_.w_tp, MT_.w_size, MT_.w_limit, MT_.w_to, MT_.w_frm, MT_.w_kind, MT_.w_number, MT_.w_sign, MT_.w_word, nqM_rd, nqM_rn, nqM_taped, nqM_mfault, nqM_mplace, nqM_told, nqM_hl, nqM_hd, NR_.w_rd, NR_.w_rn, NR_.w_taped, NR_.w_mfault, NR_.w_mplace, NR_.w_told, NR_.w_hl, NR_.w_hd] at u_72); (try simp only [hx_74, f_75, h_76, c_107, h_110, c_128, h_131, hx_134, if_true, if_false, mqM_tp, mqM_size, mqM_limit, mqM_to, mqM_frm, mqM_kind, mqM_number, mqM_sign, mqM_word, MT_.w_tp, MT_.w_size, MT_.w_limit, MT_.w_to, MT_.w_frm, MT_.w_kind, MT_.w_number, MT_.w_sign, MT_.w_word, nqM_rd, nqM_rn, nqM_taped, nqM_mfault, nqM_mplace, nqM_told, nqM_hl, nqM_hd, NR_.w_rd, NR_.w_rn, NR_.w_taped, NR_.w_mfault, NR_.w_mplace, NR_.w_told, NR_.w_hl, NR_.w_hd] at u_73); simp only [emqx, hs_129, hs_7, enqx, hs_130, hs_8, hQ_66, hQ_67, hQ_68, hQ_69, u_70, u_71, u_72, u_73, hx_74, f_75, h_76, c_107, h_110, c_128, h_131, hx_134, if_true, if_false, mqM_tp, mqM_size, mqM_limit, mqM_to, mqM_frm, mqM_kind, mqM_number, mqM_sign, mqM_word, MT_.w_tp, MT_.w_size, MT_.w_limit, MT_.w_to, MT_.w_frm, MT_.w_kind, MT_.w_number, MT_.w_sign, MT_.w_word, nqM_rd, nqM_rn, nqM_taped, nqM_mfault, nqM_mplace, nqM_told, nqM_hl, nqM_hd, NR_.w_rd, NR_.w_rn, NR_.w_taped, NR_.w_mfault, NR_.w_mplace, NR_.w_told, NR_.w_hl, NR_.w_hd]) (by (try simp only [hx_74, f_75, h_76, c_107, h_110, c_128, h_131, hx_134, if_true, if_false, mqM_tp, mqM_size, mqM_limit, mqM_to, mqM_frm, mqM_kind, mqM_number, mqM_sign, mqM_word, MT_.w_tp, MT_.w_size, MT_.w_limit, MT_.w_to, MT_.w_frm, MT_.w_kind, MT_.w_number, MT_.w_sign, MT_.w_word, nqM_rd, nqM_rn, nqM_taped, nqM_mfault, nqM_mplace, nqM_told, nqM_hl, nqM_hd, NR_.w_rd, NR_.w_rn, NR_.w_taped, NR_.w_mfault, NR_.w_mplace, NR_.w_told, NR_.w_hl, NR_.w_hd] at hQ_66); (try simp only [hx_74, f_75, h_76, c_107, h_110, c_128, h_131, hx_134, if_true, if_false, mqM_tp, mqM_size, mqM_limit, mqM_to, mqM_frm, mqM_kind, mqM_number, mqM_sign, mqM_word, MT_.w_tp, MT_.w_size, MT_.w_limit, MT_.w_to, MT_.w_frm, MT_.w_kind, MT_.w_number, MT_.w_sign, MT_.w_word, nqM_rd, nqM_rn, nqM_taped, nqM_mfault, nqM_mplace, nqM_told, nqM_hl, nqM_hd, NR_.w_rd, NR_.w_rn, NR_.w_taped, NR_.w_mfault, NR_.w_mplace, NR_.w_told, NR_.w_hl, NR_.w_hd] at hQ_67); (try simp only [hx_74, f_75, h_76, c_107, h_110, c_128, h_131, hx_134, if_true, if_false, mqM_tp, mqM_size, mqM_limit, mqM_to, mqM_frm, mqM_kind, mqM_number, mqM_sign, mqM_word, MT_.w_tp, MT_.w_size, MT_.w_limit, MT_.w_to, MT_.w_frm, MT_.w_kind, MT_.w_number, MT_.w_sign, MT_.w_word, nqM_rd, nqM_rn, nqM_taped, nqM_mfault, nqM_mplace, nqM_told, nqM_hl, nqM_hd, NR_.w_rd, NR_.w_rn, NR_.w_taped, NR_.w_mfault, NR_.w_mplace, NR_.w_told, NR_.w_hl, NR_.w_hd] at hQ_68); (try simp only [hx_74, f_75, h_76, c_107, h_110, c_128, h_131, hx_134, if_true, if_false, mqM_tp, mqM_size, mqM_limit, mqM_to, mqM_frm, mqM_kind, mqM_number, mqM_sign, mqM_word, MT_.w_tp, MT_.w_size, MT_.w_limit, MT_.w_to, MT_.w_frm, MT_.w_kind, MT_.w_number, MT_.w_sign, MT_.w_word, nqM_rd, nqM_rn, nqM_taped, nqM_mfault, nqM_mplace, nqM_told, nqM_hl, nqM_hd, NR_.w_rd, NR_.w_rn, NR_.w_taped, NR_.w_mfault, NR_.w_mplace, NR_.w_told, NR_.w_hl, NR_.w_hd] at hQ_69); (try simp only [hx_74, f_75, h_76, c_107, h_110, c_128, h_131, hx_134, if_true, if_false, mqM_tp, mqM_size, mqM_limit, mqM_to, mqM_frm, mqM_kind, mqM_number, mqM_sign, mqM_word, MT_.w_tp, MT_.w_size, MT_.w_limit, MT_.w_to, MT_.w_frm, MT_.w_kind, MT_.w_number, MT_.w_sign, MT_.w_word, nqM_rd, nqM_rn, nqM_taped, nqM_mfault, nqM_mplace, nqM_told, nqM_hl, nqM_hd, NR_.w_rd, NR_.w_rn, NR_.w_taped, NR_.w_mfault, NR_.w_mplace, NR_.w_told, NR_.w_hl, NR_.w_hd] at u_70); (try simp only [hx_74, f_75, h_76, c_107, h_110, c_128, h_131, hx_134, if_true, if_false, mqM_tp, mqM_size, mqM_limit, mqM_to, mqM_frm, mqM_kind, mqM_number, mqM_sign, mqM_word, MT_.w_tp, MT_.w_size, MT_.w_limit, MT_.w_to, MT_.w_frm, MT_.w_kind, MT_.w_number, MT_.w_sign, MT_.w_word, nqM_rd, nqM_rn, nqM_taped, nqM_mfault, nqM_mplace, nqM_told, nqM_hl, nqM_hd, NR_.w_rd, NR_.w_rn, NR_.w_taped, NR_.w_mfault, NR_.w_mplace, NR_.w_told, NR_.w_hl, NR_.w_hd] at u_71); (try simp only [hx_74, f_75, h_76, c_107, h_110, c_128, h_131, hx_134, if_true, if_false, mqM_tp, mqM_size, mqM_limit, mqM_to, mqM_frm, mqM_kind, mqM_number, mqM_sign, mqM_word, MT_.w_tp, MT_.w_size, MT_.w_limit, MT_.w_to, MT_.w_frm, MT_.w_kind, MT_.w_number, MT_.w_sign, MT_.w_word, nqM_rd, nqM_rn, nqM_taped, nqM_mfault, nqM_mplace, nqM_told, nqM_hl, nqM_hd, NR_.w_rd, NR_.w_rn, NR_.w_taped, NR_.w_mfault, NR_.w_mplace, NR_.w_told, NR_.w_hl, NR_.w_hd] at u_72); (try simp only [hx_74, f_75, h_76, c_107, h_110, c_128, h_131, hx_134, if_true, if_false, mqM_tp, mqM_size, mqM_limit, mqM_to, mqM_frm, mqM_kind, mqM_number, mqM_sign, mqM_word, MT_.w_tp, MT_.w_size, MT_.w_limit, MT_.w_to, MT_.w_frm, MT_.w_kind, MT_.w_number, MT_.w_sign, MT_.w_word, nqM_rd, nqM_rn, nqM_taped, nqM_mfault, nqM_mplace, nqM_told, nqM_hl, nqM_hd, NR_.w_rd, NR_.w_rn, NR_.w_taped, NR_.w_mfault, NR_.w_mplace, NR_.w_told, NR_.w_hl, NR_.w_hd] at u_73); simp only [emqx, hs_129, hs_7, enqx, hs_130, hs_8, hQ_66, hQ_67, hQ_68, hQ_69, u_70, u_71, u_72, u_73, hx_74, f_75, h_76, c_107, h_110, c_128, h_131, hx_134, if_true, if_false, mqM_tp, mqM_size, mqM_limit, mqM_to, mqM_frm, mqM_kind, mqM_number, mqM_sign, mqM_word, MT_.w_tp, MT_.w_size, MT_.w_limit, MT_.w_to, MT_.w_frm, MT_.w_kind, MT_.w_number, MT_.w_sign, MT_.w_word, nqM_rd, nqM_rn, nqM_taped, nqM_mfault, nqM_mplace, nqM_told, nqM_hl, nqM_hd, NR_.w_rd, NR_.w_rn, NR_.w_taped, NR_.w_mfault, NR_.w_mplace, NR_.w_told, NR_.w_hl, NR_.w_hd]) (by (try simp only [hx_74, f_75, h_76, c_107, h_110, c_128, h_131, hx_134, if_true, if_false, mqM_tp, mqM_size, mqM_limit, mqM_to, mqM_frm, mqM_kind, mqM_number, mqM_sign, mqM_word, MT_.w_tp, MT_.w_size, MT_.w_limit, MT_.w_to, MT_.w_frm, MT_.w_kind, MT_.w_number, MT_.w_sign, MT_.w_word, nqM_rd, nqM_rn, nqM_taped, nqM_mfault, nqM_mplace, nqM_told, nqM_hl, nqM_hd, NR_.w_rd, NR_.w_rn, NR_.w_taped, NR_.w_mfault, NR_.w_mplace, NR_.w_told, NR_.w_hl, NR_.w_hd] at hQ_66); (try simp only [hx_74, f_75, h_76, c_107, h_110, c_128, h_131, hx_134, if_true, if_false, mqM_tp, mqM_size, mqM_limit, mqM_to, mqM_frm, mqM_kind, mqM_number, mqM_sign, mqM_word, MT_.w_tp, MT_.w_size, MT_.w_limit, MT_.w_to, MT_.w_frm, MT_.w_kind, MT_.w_number, MT_.w_sign, MT_.w_word, nqM_rd, nqM_rn, nqM_taped, nqM_mfault, nqM_mplace, nqM_told, nqM_hl, nqM_hd, NR_.w_rd, NR_.w_rn, NR_.w_taped, NR_.w_mfault, NR_.w_mplace, NR_.w_told, NR_.w_hl, NR_.w_hd] at hQ_67); (try simp only [hx_74, f_75, h_76, c_107, h_110, c_128, h_131, hx_134, if_true, if_false, mqM_tp, mqM_size, mqM_limit, mqM_to, mqM_frm, mqM_kind, mqM_number, mqM_sign, mqM_word, MT_.w_tp, MT_.w_size, MT_.w_limit, MT_.w_to, MT_.w_frm, MT_.w_kind, MT_.w_number, MT_.w_sign, MT_.w_word, nqM_rd, nqM_rn, nqM_taped, nqM_mfault, nqM_mplace, nqM_told, nqM_hl, nqM_hd, NR_.w_rd, NR_.w_rn, NR_.w_taped, NR_.w_mfault, NR_.w_mplace, NR_.w_told, NR_.w_hl, NR_.w_hd] at hQ_68); (try simp only [hx_74, f_75, h_76, c_107, h_110, c_128, h_131, hx_134, if_true, if_false, mqM_tp, mqM_size, mqM_limit, mqM_to, mqM_frm, mqM_kind, mqM_number, mqM_sign, mqM_word, MT_.w_tp, MT_.w_size, MT_.w_limit, MT_.w_to, MT_.w_frm, MT_.w_kind, MT_.w_number, MT_.w_sign, MT_.w_word, nqM_rd, nqM_rn, nqM_taped, nqM_mfault, nqM_mplace, nqM_told, nqM_hl, nqM_hd, NR_.w_rd, NR_.w_rn, NR_.w_taped, NR_.w_mfault, NR_.w_mplace, NR_.w_told, NR_.w_hl, NR_.w_hd] at hQ_69); (try simp only [hx_74, f_75, h_76, c_107, h_110, c_128, h_131, hx_134, if_true, if_false, mqM_tp, mqM_size, mqM_limit, mqM_to, mqM_frm, mqM_kind, mqM_number, mqM_sign, mqM_word, MT_.w_tp, MT_.w_size, MT_.w_limit, MT_.w_to, MT_.w_frm, MT_.w_kind, MT_.w_number, MT_.w_sign, MT_.w_word, nqM_rd, nqM_rn, nqM_taped, nqM_mfault, nqM_mplace, nqM_told, nqM_hl, nqM_hd, NR_.w_rd, NR_.w_rn, NR_.w_taped, NR_.w_mfault, NR_.w_mplace, NR_.w_told, NR_.w_hl, NR_.w_hd] at u_70); (try simp only [hx_74, f_75, h_76, c_107, h_110, c_128, h_131, hx_134, if_true, if_false, mqM_tp, mqM_size, mqM_limit, mqM_to, mqM_frm, mqM_kind, mqM_number, mqM_sign, mqM_word, MT_.w_tp, MT_.w_size, MT_.w_limit, MT_.w_to, MT_.w_frm, MT_.w_kind, MT_.w_number, MT_.w_sign, MT_.w_word, nqM_rd, nqM_rn, nqM_taped, nqM_mfault, nqM_mplace, nqM_told, nqM_hl, nqM_hd, NR_.w_rd, NR_.w_rn, NR_.w_taped, NR_.w_mfault, NR_.w_mplace, NR_.w_told, NR_.w_hl, NR_.w_hd] at u_71); (try simp only [hx_74, f_75, h_76, c_107, h_110, c_128, h_131, hx_134, if_true, if_false, mqM_tp, mqM_size, mqM_limit, mqM_to, mqM_frm, mqM_kind, mqM_number, mqM_sign, mqM_word, MT_.w_tp, MT_.w_size, MT_.w_limit, MT_.w_to, MT_.w_frm, MT_.w_kind, MT_.w_number, MT_.w_sign, MT_.w_word, nqM_rd, nqM_rn, nqM_taped, nqM_mfault, nqM_mplace, nqM_told, nqM_hl, nqM_hd, NR_.w_rd, NR_.w_rn, NR_.w_taped, NR_.w_mfault, NR_.w_mplace, NR_.w_told, NR_.w_hl, NR_.w_hd] at u_72); (try simp only [hx_74, f_75, h_76, c_107, h_110, c_128, h_131, hx_134, if_true, if_false, mqM_tp, mqM_size, mqM_limit, mqM_to, mqM_frm, mqM_kind, mqM_number, mqM_sign, mqM_word, MT_.w_tp, MT_.w_size, MT_.w_limit, MT_.w_to, MT_.w_frm, MT_.w_kind, MT_.w_number, MT_.w_sign, MT_.w_word, nqM_rd, nqM_rn, nqM_taped, nqM_mfault, nqM_mplace, nqM_told, nqM_hl, nqM_hd, NR_.w_rd, NR_.w_rn, NR_.w_taped, NR_.w_mfault, NR_.w_mplace, NR_.w_told, NR_.w_hl, NR_.w_hd] at u_73); simp only [emqx, hs_129, hs_7, enqx, hs_130, hs_8, hQ_66, hQ_67, hQ_68, hQ_69, u_70, u_71, u_72, u_73, hx_74, f_75, h_76, c_107, h_110, c_128, h_131, hx_134, if_true, if_false, mqM_tp, mqM_size, mqM_limit, mqM_to, mqM_frm, mqM_kind, mqM_number, mqM_sign, mqM_word, MT_.w_tp, MT_.w_size, MT_.w_limit, MT_.w_to, MT_.w_frm, MT_.w_kind, MT_.w_number, MT_.w_sign, MT_.w_word, nqM_rd, nqM_rn, nqM_taped, nqM_mfault, nqM_mplace, nqM_told, nqM_hl, nqM_hd, NR_.w_rd, NR_.w_rn, NR_.w_taped, NR_.w_mfault, NR_.w_mplace, NR_.w_told, NR_.w_hl, NR_.w_hd]) (by (try simp only [hx_74, f_75, h_76, c_107, h_110, c_128, h_131, hx_134, if_true, if_false, mqM_tp, mqM_size, mqM_limit, mqM_to, mqM_frm, mqM_kind, mqM_number, mqM_sign, mqM_word, MT_.w_tp, MT_.w_size, MT_.w_limit, MT_.w_to, MT_.w_frm, MT_.w_kind, MT_.w_number, MT_.w_sign, MT_.w_word, nqM_rd, nqM_rn, nqM_taped, nqM_mfault, nqM_mplace, nqM_told, nqM_hl, nqM_hd, NR_.w_rd, NR_.w_rn, NR_.w_taped, NR_.w_mfault, NR_.w_mplace, NR_.w_told, NR_.w_hl, NR_.w_hd] at hQ_66); (try simp only [hx_74, f_75, h_76, c_107, h_110, c_128, h_131, hx_134, if_true, if_false, mqM_tp, mqM_size, mqM_limit, mqM_to, mqM_frm, mqM_kind, mqM_number, mqM_sign, mqM_word, MT_.w_tp, MT_.w_size, MT_.w_limit, MT_.w_to, MT_.w_frm, MT_.w_kind, MT_.w_number, MT_.w_sign, MT_.w_word, nqM_rd, nqM_rn, nqM_taped, nqM_mfault, nqM_mplace, nqM_told, nqM_hl, nqM_hd, NR_.w_rd, NR_.w_rn, NR_.w_taped, NR_.w_mfault, NR_.w_mplace, NR_.w_told, NR_.w_hl, NR_.w_hd] at hQ_67); (try simp only [hx_74, f_75, h_76, c_107, h_110, c_128, h_131, hx_134, if_true, if_false, mqM_tp, mqM_size, mqM_limit, mqM_to, mqM_frm, mqM_kind, mqM_number, mqM_sign, mqM_word, MT_.w_tp, MT_.w_size, MT_.w_limit, MT_.w_to, MT_.w_frm, MT_.w_kind, MT_.w_number, MT_.w_sign, MT_.w_word, nqM_rd, nqM_rn, nqM_taped, nqM_mfault, nqM_mplace, nqM_told, nqM_hl, nqM_hd, NR_.w_rd, NR_.w_rn, NR_.w_taped, NR_.w_mfault, NR_.w_mplace, NR_.w_told, NR_.w_hl, NR_.w_hd] at hQ_68); (try simp only [hx_74, f_75, h_76, c_107, h_110, c_128, h_131, hx_134, if_true, if_false, mqM_tp, mqM_size, mqM_limit, mqM_to, mqM_frm, mqM_kind, mqM_number, mqM_sign, mqM_word, MT_.w_tp, MT_.w_size, MT_.w_limit, MT_.w_to, MT_.w_frm, MT_.w_kind, MT_.w_number, MT_.w_sign, MT_.w_word, nqM_rd, nqM_rn, nqM_taped, nqM_mfault, nqM_mplace, nqM_told, nqM_hl, nqM_hd, NR_.w_rd, NR_.w_rn, NR_.w_taped, NR_.w_mfault, NR_.w_mplace, NR_.w_told, NR_.w_hl, NR_.w_hd] at hQ_69); (try simp only [hx_74, f_75, h_76, c_107, h_110, c_128, h_131, hx_134, if_true, if_false, mqM_tp, mqM_size, mqM_limit, mqM_to, mqM_frm, mqM_kind, mqM_number, mqM_sign, mqM_word, MT_.w_tp, MT_.w_size, MT_.w_limit, MT_.w_to, MT_.w_frm, MT_.w_kind, MT_.w_number, MT_.w_sign, MT_.w_word, nqM_rd, nqM_rn, nqM_taped, nqM_mfault, nqM_mplace, nqM_told, nqM_hl, nqM_hd, NR_.w_rd, NR_.w_rn, NR_.w_taped, NR_.w_mfault, NR_.w_mplace, NR_.w_told, NR_.w_hl, NR_.w_hd] at u_70); (try simp only [hx_74, f_75, h_76, c_107, h_110, c_128, h_131, hx_134, if_true, if_false, mqM_tp, mqM_size, mqM_limit, mqM_to, mqM_frm, mqM_kind, mqM_number, mqM_sign, mqM_word, MT_.w_tp, MT_.w_size, MT_.w_limit, MT_.w_to, MT_.w_frm, MT_.w_kind, MT_.w_number, MT_.w_sign, MT_.w_word, nqM_rd, nqM_rn, nqM_taped, nqM_mfault, nqM_mplace, nqM_told, nqM_hl, nqM_hd, NR_.w_rd, NR_.w_rn, NR_.w_taped, NR_.w_mfault, NR_.w_mplace, NR_.w_told, NR_.w_hl, NR_.w_hd] at u_71); (try simp only [hx_74, f_75, h_76, c_107, h_110, c_128, h_131, hx_134, if_true, if_false, mqM_tp, mqM_size, mqM_limit, mqM_to, mqM_frm, mqM_kind, mqM_number, mqM_sign, mqM_word, MT_.w_tp, MT_.w_size, MT_.w_limit, MT_.w_to, MT_.w_frm, MT_.w_kind, MT_.w_number, MT_.w_sign, MT_.w_word, nqM_rd, nqM_rn, nqM_taped, nqM_mfault, nqM_mplace, nqM_told, nqM_hl, nqM_hd, NR_.w_rd, NR_.w_rn, NR_.w_taped, NR_.w_mfault, NR_.w_mplace, NR_.w_told, NR_.w_hl, NR_.w_hd] at u_72); (try simp only [hx_74, f_75, h_76, c_107, h_110, c_128, h_131, hx_134, if_true, if_false, mqM_tp, mqM_size, mqM_limit, mqM_to, mqM_frm, mqM_kind, mqM_number, mqM_sign, mqM_word, MT_.w_tp, MT_.w_size, MT_.w_limit, MT_.w_to, MT_.w_frm, MT_.w_kind, MT_.w_number, MT_.w_sign, MT_.w_word, nqM_rd, nqM_rn, nqM_taped, nqM_mfault, nqM_mplace, nqM_told, nqM_hl, nqM_hd, NR_.w_rd, NR_.w_rn, NR_.w_taped, NR_.w_mfault, NR_.w_mplace, NR_.w_told, NR_.w_hl, NR_.w_hd] at u_73); simp only [emqx, hs_129, hs_7, enqx, hs_130, hs_8, hQ_66, hQ_67, hQ_68, hQ_69, u_70, u_71, u_72, u_73, hx_74, f_75, h_76, c_107, h_110, c_128, h_131, hx_134, if_true, if_false, mqM_tp, mqM_size, mqM_limit, mqM_to, mqM_frm, mqM_kind, mqM_number, mqM_sign, mqM_word, MT_.w_tp, MT_.w_size, MT_.w_limit, MT_.w_to, MT_.w_frm, MT_.w_kind, MT_.w_number, MT_.w_sign, MT_.w_word, nqM_rd, nqM_rn, nqM_taped, nqM_mfault, nqM_mplace, nqM_told, nqM_hl, nqM_hd, NR_.w_rd, NR_.w_rn, NR_.w_taped, NR_.w_mfault, NR_.w_mplace, NR_.w_told, NR_.w_hl, NR_.w_hd]) (hd_fq W9 hLx hkx (hd_fq W9 hLx hkx hd_61 hFI_102 (by decide)) hFI_123 (by decide)) (rj_fq W9 hLx hkx (rj_fq W9 hLx hkx nx_62 hGJ_103 (by decide)) hGJ_124 (by decide)) (tb_m hm_63 (ps_t2 pg_rf (ex_101.2 n_120)) (ex_122.2 (rg_nz r_133 (by decide))) ex_122.1.1)
          · skip
            have r_135 := (⟨(rx_122).1, (eq_rg (h_131) rc_0).2⟩ : Rg 0 0 x_122)
            refine g_iconst C (v := (-1)) dX12_table_61 (by decide) ?_
            refine g_aload_n C 0 dX12_table_62 rfl rfl ?_
            obtain ⟨x_136, hx_136, rx_136⟩ := ex_getw (I := I_123) (a := x) (j := 11) (lo := (-2147483648)) (hi := 2147483647) hUI_123.1 hLx (ro_o hkx (by decide)) rfl
            have f_137 : s_130.mplace = x_136 := (congrArg NR_.mplace hs_130).symm.trans hx_136
            refine g_getI C K hLx hkx f_12_143 (v := x_136) hx_136 dX12_table_63 ?_
            obtain ⟨x_138, hx_138, rx_138, tx_138⟩ := ex_sub (-2147483648) 2147483647 rc_m1 rx_136 (by decide) (by decide) (by decide) (by decide)
            refine g_isub C (v := x_138) dX12_table_66 hx_138 ?_
            have tb_139 : mTableB (MTf R I J x) (NRf R I J x) = none := by (try simp only [hx_74, f_75, h_76, c_107, h_110, c_128, (eq_true h_131), hx_136, f_137, hx_138, if_true, if_false, mqM_tp, mqM_size, mqM_limit, mqM_to, mqM_frm, mqM_kind, mqM_number, mqM_sign, mqM_word, MT_.w_tp, MT_.w_size, MT_.w_limit, MT_.w_to, MT_.w_frm, MT_.w_kind, MT_.w_number, MT_.w_sign, MT_.w_word, nqM_rd, nqM_rn, nqM_taped, nqM_mfault, nqM_mplace, nqM_told, nqM_hl, nqM_hd, NR_.w_rd, NR_.w_rn, NR_.w_taped, NR_.w_mfault, NR_.w_mplace, NR_.w_told, NR_.w_hl, NR_.w_hd] at hQ_66); (try simp only [hx_74, f_75, h_76, c_107, h_110, c_128, (eq_true h_131), hx_136, f_137, hx_138, if_true, if_false, mqM_tp, mqM_size, mqM_limit, mqM_to, mqM_frm, mqM_kind, mqM_number, mqM_sign, mqM_word, MT_.w_tp, MT_.w_size, MT_.w_limit, MT_.w_to, MT_.w_frm, MT_.w_kind, MT_.w_number, MT_.w_sign, MT_.w_word, nqM_rd, nqM_rn, nqM_taped, nqM_mfault, nqM_mplace, nqM_told, nqM_hl, nqM_hd, NR_.w_rd, NR_.w_rn, NR_.w_taped, NR_.w_mfault, NR_.w_mplace, NR_.w_told, NR_.w_hl, NR_.w_hd] at hQ_67); (try simp only [hx_74, f_75, h_76, c_107, h_110, c_128, (eq_true h_131), hx_136, f_137, hx_138, if_true, if_false, mqM_tp, mqM_size, mqM_limit, mqM_to, mqM_frm, mqM_kind, mqM_number, mqM_sign, mqM_word, MT_.w_tp, MT_.w_size, MT_.w_limit, MT_.w_to, MT_.w_frm, MT_.w_kind, MT_.w_number, MT_.w_sign, MT_.w_word, nqM_rd, nqM_rn, nqM_taped, nqM_mfault, nqM_mplace, nqM_told, nqM_hl, nqM_hd, NR_.w_rd, NR_.w_rn, NR_.w_taped, NR_.w_mfault, NR_.w_mplace, NR_.w_told, NR_.w_hl, NR_.w_hd] at hQ_68); (try simp only [hx_74, f_75, h_76, c_107, h_110, c_128, (eq_true h_131), hx_136, f_137, hx_138, if_true, if_false, mqM_tp, mqM_size, mqM_limit, mqM_to, mqM_frm, mqM_kind, mqM_number, mqM_sign, mqM_word, MT_.w_tp, MT_.w_size, MT_.w_limit, MT_.w_to, MT_.w_frm, MT_.w_kind, MT_.w_number, MT_.w_sign, MT_.w_word, nqM_rd, nqM_rn, nqM_taped, nqM_mfault, nqM_mplace, nqM_told, nqM_hl, nqM_hd, NR_.w_rd, NR_.w_rn, NR_.w_taped, NR_.w_mfault, NR_.w_mplace, NR_.w_told, NR_.w_hl, NR_.w_hd] at hQ_69); (try simp only [hx_74, f_75, h_76, c_107, h_110, c_128, (eq_true h_131), hx_136, f_137, hx_138, if_true, if_false, mqM_tp, mqM_size, mqM_limit, mqM_to, mqM_frm, mqM_kind, mqM_number, mqM_sign, mqM_word, MT_.w_tp, MT_.w_size, MT_.w_limit, MT_.w_to, MT_.w_frm, MT_.w_kind, MT_.w_number, MT_.w_sign, MT_.w_word, nqM_rd, nqM_rn, nqM_taped, nqM_mfault, nqM_mplace, nqM_told, nqM_hl, nqM_hd, NR_.w_rd, NR_.w_rn, NR_.w_taped, NR_.w_mfault, NR_.w_mplace, NR_.w_told, NR_.w_hl, NR_.w_hd] at u_70); (try simp only [hx_74, f_75, h_76, c_107, h_110, c_128, (eq_true h_131), hx_136, f_137, hx_138, if_true, if_false, mqM_tp, mqM_size, mqM_limit, mqM_to, mqM_frm, mqM_kind, mqM_number, mqM_sign, mqM_word, MT_.w_tp, MT_.w_size, MT_.w_limit, MT_.w_to, MT_.w_frm, MT_.w_kind, MT_.w_number, MT_.w_sign, MT_.w_word, nqM_rd, nqM_rn, nqM_taped, nqM_mfault, nqM_mplace, nqM_told, nqM_hl, nqM_hd, NR_.w_rd, NR_.w_rn, NR_.w_taped, NR_.w_mfault, NR_.w_mplace, NR_.w_told, NR_.w_hl, NR_.w_hd] at u_71); (try simp only [hx_74, f_75, h_76, c_107, h_110, c_128, (eq_true h_131), hx_136, f_137, hx_138, if_true, if_false, mqM_tp, mqM_size, mqM_limit, mqM_to, mqM_frm, mqM_kind, mqM_number, mqM_sign, mqM_word, MT_.w_tp, MT_.w_size, MT_.w_limit, MT_.w_to, MT_.w_frm, MT_.w_kind, MT_.w_number, MT_.w_sign, MT_.w_word, nqM_rd, nqM_rn, nqM_taped, nqM_mfault, nqM_mplace, nqM_told, nqM_hl, nqM_hd, NR_.w_rd, NR_.w_rn, NR_.w_taped, NR_.w_mfault, NR_.w_mplace, NR_.w_told, NR_.w_hl, NR_.w_hd] at u_72); (try simp only [hx_74, f_75, h_76, c_107, h_110, c_128, (eq_true h_131), hx_136, f_137, hx_138, if_true, if_false, mqM_tp, mqM_size, mqM_limit, mqM_to, mqM_frm, mqM_kind, mqM_number, mqM_sign, mqM_word, MT_.w_tp, MT_.w_size, MT_.w_limit, MT_.w_to, MT_.w_frm, MT_.w_kind, MT_.w_number, MT_.w_sign, MT_.w_word, nqM_rd, nqM_rn, nqM_taped, nqM_mfault, nqM_mplace, nqM_told, nqM_hl, nqM_hd, NR_.w_rd, NR_.w_rn, NR_.w_taped, NR_.w_mfault, NR_.w_mplace, NR_.w_told, NR_.w_hl, NR_.w_hd] at u_73); simp only [emqx, hs_129, hs_7, enqx, hs_130, hs_8, hQ_66, hQ_67, hQ_68, hQ_69, u_70, u_71, u_72, u_73, hx_74, f_75, h_76, c_107, h_110, c_128, (eq_true h_131), hx_136, f_137, hx_138, if_true, if_false, mqM_tp, mqM_size, mqM_limit, mqM_to, mqM_frm, mqM_kind, mqM_number, mqM_sign, mqM_word, MT_.w_tp, MT_.w_size, MT_.w_limit, MT_.w_to, MT_.w_frm, MT_.w_kind, MT_.w_number, MT_.w_sign, MT_.w_word, nqM_rd, nqM_rn, nqM_taped, nqM_mfault, nqM_mplace, nqM_told, nqM_hl, nqM_hd, NR_.w_rd, NR_.w_rn, NR_.w_taped, NR_.w_mfault, NR_.w_mplace, NR_.w_told, NR_.w_hl, NR_.w_hd]
            have tb_140 : mTableN (MTf R I J x) (NRf R I J x) = none := by (try simp only [hx_74, f_75, h_76, c_107, h_110, c_128, (eq_true h_131), hx_136, f_137, hx_138, if_true, if_false, mqM_tp, mqM_size, mqM_limit, mqM_to, mqM_frm, mqM_kind, mqM_number, mqM_sign, mqM_word, MT_.w_tp, MT_.w_size, MT_.w_limit, MT_.w_to, MT_.w_frm, MT_.w_kind, MT_.w_number, MT_.w_sign, MT_.w_word, nqM_rd, nqM_rn, nqM_taped, nqM_mfault, nqM_mplace, nqM_told, nqM_hl, nqM_hd, NR_.w_rd, NR_.w_rn, NR_.w_taped, NR_.w_mfault, NR_.w_mplace, NR_.w_told, NR_.w_hl, NR_.w_hd] at hQ_66); (try simp only [hx_74, f_75, h_76, c_107, h_110, c_128, (eq_true h_131), hx_136, f_137, hx_138, if_true, if_false, mqM_tp, mqM_size, mqM_limit, mqM_to, mqM_frm, mqM_kind, mqM_number, mqM_sign, mqM_word, MT_.w_tp, MT_.w_size, MT_.w_limit, MT_.w_to, MT_.w_frm, MT_.w_kind, MT_.w_number, MT_.w_sign, MT_.w_word, nqM_rd, nqM_rn, nqM_taped, nqM_mfault, nqM_mplace, nqM_told, nqM_hl, nqM_hd, NR_.w_rd, NR_.w_rn, NR_.w_taped, NR_.w_mfault, NR_.w_mplace, NR_.w_told, NR_.w_hl, NR_.w_hd] at hQ_67); (try simp only [hx_74, f_75, h_76, c_107, h_110, c_128, (eq_true h_131), hx_136, f_137, hx_138, if_true, if_false, mqM_tp, mqM_size, mqM_limit, mqM_to, mqM_frm, mqM_kind, mqM_number, mqM_sign, mqM_word, MT_.w_tp, MT_.w_size, MT_.w_limit, MT_.w_to, MT_.w_frm, MT_.w_kind, MT_.w_number, MT_.w_sign, MT_.w_word, nqM_rd, nqM_rn, nqM_taped, nqM_mfault, nqM_mplace, nqM_told, nqM_hl, nqM_hd, NR_.w_rd, NR_.w_rn, NR_.w_taped, NR_.w_mfault, NR_.w_mplace, NR_.w_told, NR_.w_hl, NR_.w_hd] at hQ_68); (try simp only [hx_74, f_75, h_76, c_107, h_110, c_128, (eq_true h_131), hx_136, f_137, hx_138, if_true, if_false, mqM_tp, mqM_size, mqM_limit, mqM_to, mqM_frm, mqM_kind, mqM_number, mqM_sign, mqM_word, MT_.w_tp, MT_.w_size, MT_.w_limit, MT_.w_to, MT_.w_frm, MT_.w_kind, MT_.w_number, MT_.w_sign, MT_.w_word, nqM_rd, nqM_rn, nqM_taped, nqM_mfault, nqM_mplace, nqM_told, nqM_hl, nqM_hd, NR_.w_rd, NR_.w_rn, NR_.w_taped, NR_.w_mfault, NR_.w_mplace, NR_.w_told, NR_.w_hl, NR_.w_hd] at hQ_69); (try simp only [hx_74, f_75, h_76, c_107, h_110, c_128, (eq_true h_131), hx_136, f_137, hx_138, if_true, if_false, mqM_tp, mqM_size, mqM_limit, mqM_to, mqM_frm, mqM_kind, mqM_number, mqM_sign, mqM_word, MT_.w_tp, MT_.w_size, MT_.w_limit, MT_.w_to, MT_.w_frm, MT_.w_kind, MT_.w_number, MT_.w_sign, MT_.w_word, nqM_rd, nqM_rn, nqM_taped, nqM_mfault, nqM_mplace, nqM_told, nqM_hl, nqM_hd, NR_.w_rd, NR_.w_rn, NR_.w_taped, NR_.w_mfault, NR_.w_mplace, NR_.w_told, NR_.w_hl, NR_.w_hd] at u_70); (try simp only [hx_74, f_75, h_76, c_107, h_110, c_128, (eq_true h_131), hx_136, f_137, hx_138, if_true, if_false, mqM_tp, mqM_size, mqM_limit, mqM_to, mqM_frm, mqM_kind, mqM_number, mqM_sign, mqM_word, MT_.w_tp, MT_.w_size, MT_.w_limit, MT_.w_to, MT_.w_frm, MT_.w_kind, MT_.w_number, MT_.w_sign, MT_.w_word, nqM_rd, nqM_rn, nqM_taped, nqM_mfault, nqM_mplace, nqM_told, nqM_hl, nqM_hd, NR_.w_rd, NR_.w_rn, NR_.w_taped, NR_.w_mfault, NR_.w_mplace, NR_.w_told, NR_.w_hl, NR_.w_hd] at u_71); (try simp only [hx_74, f_75, h_76, c_107, h_110, c_128, (eq_true h_131), hx_136, f_137, hx_138, if_true, if_false, mqM_tp, mqM_size, mqM_limit, mqM_to, mqM_frm, mqM_kind, mqM_number, mqM_sign, mqM_word, MT_.w_tp, MT_.w_size, MT_.w_limit, MT_.w_to, MT_.w_frm, MT_.w_kind, MT_.w_number, MT_.w_sign, MT_.w_word, nqM_rd, nqM_rn, nqM_taped, nqM_mfault, nqM_mplace, nqM_told, nqM_hl, nqM_hd, NR_.w_rd, NR_.w_rn, NR_.w_taped, NR_.w_mfault, NR_.w_mplace, NR_.w_told, NR_.w_hl, NR_.w_hd] at u_72); (try simp only [hx_74, f_75, h_76, c_107, h_110, c_128, (eq_true h_131), hx_136, f_137, hx_138, if_true, if_false, mqM_tp, mqM_size, mqM_limit, mqM_to, mqM_frm, mqM_kind, mqM_number, mqM_sign, mqM_word, MT_.w_tp, MT_.w_size, MT_.w_limit, MT_.w_to, MT_.w_frm, MT_.w_kind, MT_.w_number, MT_.w_sign, MT_.w_word, nqM_rd, nqM_rn, nqM_taped, nqM_mfault, nqM_mplace, nqM_told, nqM_hl, nqM_hd, NR_.w_rd, NR_.w_rn, NR_.w_taped, NR_.w_mfault, NR_.w_mplace, NR_.w_told, NR_.w_hl, NR_.w_hd] at u_73); simp only [emqx, hs_129, hs_7, enqx, hs_130, hs_8, hQ_66, hQ_67, hQ_68, hQ_69, u_70, u_71, u_72, u_73, hx_74, f_75, h_76, c_107, h_110, c_128, (eq_true h_131), hx_136, f_137, hx_138, if_true, if_false, mqM_tp, mqM_size, mqM_limit, mqM_to, mqM_frm, mqM_kind, mqM_number, mqM_sign, mqM_word, MT_.w_tp, MT_.w_size, MT_.w_limit, MT_.w_to, MT_.w_frm, MT_.w_kind, MT_.w_number, MT_.w_sign, MT_.w_word, nqM_rd, nqM_rn, nqM_taped, nqM_mfault, nqM_mplace, nqM_told, nqM_hl, nqM_hd, NR_.w_rd, NR_.w_rn, NR_.w_taped, NR_.w_mfault, NR_.w_mplace, NR_.w_told, NR_.w_hl, NR_.w_hd]
            obtain ⟨x_141, hx_141, rx_141⟩ := ex_getw (I := I_123) (a := x) (j := 10) (lo := (-2147483648)) (hi := 2147483647) hUI_123.1 hLx (ro_o hkx (by decide)) rfl
            have f_142 : s_130.mfault = x_141 := (congrArg NR_.mfault hs_130).symm.trans hx_141
            have mf_143 : mTableF (MTf R I J x) (NRf R I J x) = x_141 := by (try simp only [hx_74, f_75, h_76, c_107, h_110, c_128, (eq_true h_131), hx_136, f_137, hx_138, hx_141, f_142, if_true, if_false, mqM_tp, mqM_size, mqM_limit, mqM_to, mqM_frm, mqM_kind, mqM_number, mqM_sign, mqM_word, MT_.w_tp, MT_.w_size, MT_.w_limit, MT_.w_to, MT_.w_frm, MT_.w_kind, MT_.w_number, MT_.w_sign, MT_.w_word, nqM_rd, nqM_rn, nqM_taped, nqM_mfault, nqM_mplace, nqM_told, nqM_hl, nqM_hd, NR_.w_rd, NR_.w_rn, NR_.w_taped, NR_.w_mfault, NR_.w_mplace, NR_.w_told, NR_.w_hl, NR_.w_hd] at hQ_66); (try simp only [hx_74, f_75, h_76, c_107, h_110, c_128, (eq_true h_131), hx_136, f_137, hx_138, hx_141, f_142, if_true, if_false, mqM_tp, mqM_size, mqM_limit, mqM_to, mqM_frm, mqM_kind, mqM_number, mqM_sign, mqM_word, MT_.w_tp, MT_.w_size, MT_.w_limit, MT_.w_to, MT_.w_frm, MT_.w_kind, MT_.w_number, MT_.w_sign, MT_.w_word, nqM_rd, nqM_rn, nqM_taped, nqM_mfault, nqM_mplace, nqM_told, nqM_hl, nqM_hd, NR_.w_rd, NR_.w_rn, NR_.w_taped, NR_.w_mfault, NR_.w_mplace, NR_.w_told, NR_.w_hl, NR_.w_hd] at hQ_67); (try simp only [hx_74, f_75, h_76, c_107, h_110, c_128, (eq_true h_131), hx_136, f_137, hx_138, hx_141, f_142, if_true, if_false, mqM_tp, mqM_size, mqM_limit, mqM_to, mqM_frm, mqM_kind, mqM_number, mqM_sign, mqM_word, MT_.w_tp, MT_.w_size, MT_.w_limit, MT_.w_to, MT_.w_frm, MT_.w_kind, MT_.w_number, MT_.w_sign, MT_.w_word, nqM_rd, nqM_rn, nqM_taped, nqM_mfault, nqM_mplace, nqM_told, nqM_hl, nqM_hd, NR_.w_rd, NR_.w_rn, NR_.w_taped, NR_.w_mfault, NR_.w_mplace, NR_.w_told, NR_.w_hl, NR_.w_hd] at hQ_68); (try simp only [hx_74, f_75, h_76, c_107, h_110, c_128, (eq_true h_131), hx_136, f_137, hx_138, hx_141, f_142, if_true, if_false, mqM_tp, mqM_size, mqM_limit, mqM_to, mqM_frm, mqM_kind, mqM_number, mqM_sign, mqM_word, MT_.w_tp, MT_.w_size, MT_.w_limit, MT_.w_to, MT_.w_frm, MT_.w_kind, MT_.w_number, MT_.w_sign, MT_.w_word, nqM_rd, nqM_rn, nqM_taped, nqM_mfault, nqM_mplace, nqM_told, nqM_hl, nqM_hd, NR_.w_rd, NR_.w_rn, NR_.w_taped, NR_.w_mfault, NR_.w_mplace, NR_.w_told, NR_.w_hl, NR_.w_hd] at hQ_69); (try simp only [hx_74, f_75, h_76, c_107, h_110, c_128, (eq_true h_131), hx_136, f_137, hx_138, hx_141, f_142, if_true, if_false, mqM_tp, mqM_size, mqM_limit, mqM_to, mqM_frm, mqM_kind, mqM_number, mqM_sign, mqM_word, MT_.w_tp, MT_.w_size, MT_.w_limit, MT_.w_to, MT_.w_frm, MT_.w_kind, MT_.w_number, MT_.w_sign, MT_.w_word, nqM_rd, nqM_rn, nqM_taped, nqM_mfault, nqM_mplace, nqM_told, nqM_hl, nqM_hd, NR_.w_rd, NR_.w_rn, NR_.w_taped, NR_.w_mfault, NR_.w_mplace, NR_.w_told, NR_.w_hl, NR_.w_hd] at u_70); (try simp only [hx_74, f_75, h_76, c_107, h_110, c_128, (eq_true h_131), hx_136, f_137, hx_138, hx_141, f_142, if_true, if_false, mqM_tp, mqM_size, mqM_limit, mqM_to, mqM_frm, mqM_kind, mqM_number, mqM_sign, mqM_word, MT_.w_tp, MT_.w_size, MT_.w_limit, MT_.w_to, MT_.w_frm, MT_.w_kind, MT_.w_number, MT_.w_sign, MT_.w_word, nqM_rd, nqM_rn, nqM_taped, nqM_mfault, nqM_mplace, nqM_told, nqM_hl, nqM_hd, NR_.w_rd, NR_.w_rn, NR_.w_taped, NR_.w_mfault, NR_.w_mplace, NR_.w_told, NR_.w_hl, NR_.w_hd] at u_71); (try simp only [hx_74, f_75, h_76, c_107, h_110, c_128, (eq_true h_131), hx_136, f_137, hx_138, hx_141, f_142, if_true, if_false, mqM_tp, mqM_size, mqM_limit, mqM_to, mqM_frm, mqM_kind, mqM_number, mqM_sign, mqM_word, MT_.w_tp, MT_.w_size, MT_.w_limit, MT_.w_to, MT_.w_frm, MT_.w_kind, MT_.w_number, MT_.w_sign, MT_.w_word, nqM_rd, nqM_rn, nqM_taped, nqM_mfault, nqM_mplace, nqM_told, nqM_hl, nqM_hd, NR_.w_rd, NR_.w_rn, NR_.w_taped, NR_.w_mfault, NR_.w_mplace, NR_.w_told, NR_.w_hl, NR_.w_hd] at u_72); (try simp only [hx_74, f_75, h_76, c_107, h_110, c_128, (eq_true h_131), hx_136, f_137, hx_138, hx_141, f_142, if_true, if_false, mqM_tp, mqM_size, mqM_limit, mqM_to, mqM_frm, mqM_kind, mqM_number, mqM_sign, mqM_word, MT_.w_tp, MT_.w_size, MT_.w_limit, MT_.w_to, MT_.w_frm, MT_.w_kind, MT_.w_number, MT_.w_sign, MT_.w_word, nqM_rd, nqM_rn, nqM_taped, nqM_mfault, nqM_mplace, nqM_told, nqM_hl, nqM_hd, NR_.w_rd, NR_.w_rn, NR_.w_taped, NR_.w_mfault, NR_.w_mplace, NR_.w_told, NR_.w_hl, NR_.w_hd] at u_73); simp only [emqx, hs_129, hs_7, enqx, hs_130, hs_8, hQ_66, hQ_67, hQ_68, hQ_69, u_70, u_71, u_72, u_73, hx_74, f_75, h_76, c_107, h_110, c_128, (eq_true h_131), hx_136, f_137, hx_138, hx_141, f_142, if_true, if_false, mqM_tp, mqM_size, mqM_limit, mqM_to, mqM_frm, mqM_kind, mqM_number, mqM_sign, mqM_word, MT_.w_tp, MT_.w_size, MT_.w_limit, MT_.w_to, MT_.w_frm, MT_.w_kind, MT_.w_number, MT_.w_sign, MT_.w_word, nqM_rd, nqM_rn, nqM_taped, nqM_mfault, nqM_mplace, nqM_told, nqM_hl, nqM_hd, NR_.w_rd, NR_.w_rn, NR_.w_taped, NR_.w_mfault, NR_.w_mplace, NR_.w_told, NR_.w_hl, NR_.w_hd]
            exact g_zret (ty := .int) (r := x_138) B K rfl (rfl) ⟨hUI_123, hF_126, hG_127, rx_138, (by (try simp only [hx_74, f_75, h_76, c_107, h_110, c_128, (eq_true h_131), hx_136, f_137, hx_138, if_true, if_false, mqM_tp, mqM_size, mqM_limit, mqM_to, mqM_frm, mqM_kind, mqM_number, mqM_sign, mqM_word, MT_.w_tp, MT_.w_size, MT_.w_limit, MT_.w_to, MT_.w_frm, MT_.w_kind, MT_.w_number, MT_.w_sign, MT_.w_word, nqM_rd, nqM_rn, nqM_taped, nqM_mfault, nqM_mplace, nqM_told, nqM_hl, nqM_hd, NR_.w_rd, NR_.w_rn, NR_.w_taped, NR_.w_mfault, NR_.w_mplace, NR_.w_told, NR_.w_hl, NR_.w_hd] at hQ_66); (try simp only [hx_74, f_75, h_76, c_107, h_110, c_128, (eq_true h_131), hx_136, f_137, hx_138, if_true, if_false, mqM_tp, mqM_size, mqM_limit, mqM_to, mqM_frm, mqM_kind, mqM_number, mqM_sign, mqM_word, MT_.w_tp, MT_.w_size, MT_.w_limit, MT_.w_to, MT_.w_frm, MT_.w_kind, MT_.w_number, MT_.w_sign, MT_.w_word, nqM_rd, nqM_rn, nqM_taped, nqM_mfault, nqM_mplace, nqM_told, nqM_hl, nqM_hd, NR_.w_rd, NR_.w_rn, NR_.w_taped, NR_.w_mfault, NR_.w_mplace, NR_.w_told, NR_.w_hl, NR_.w_hd] at hQ_67); (try simp only [hx_74, f_75, h_76, c_107, h_110, c_128, (eq_true h_131), hx_136, f_137, hx_138, if_true, if_false, mqM_tp, mqM_size, mqM_limit, mqM_to, mqM_frm, mqM_kind, mqM_number, mqM_sign, mqM_word, MT_.w_tp, MT_.w_size, MT_.w_limit, MT_.w_to, MT_.w_frm, MT_.w_kind, MT_.w_number, MT_.w_sign, MT_.w_word, nqM_rd, nqM_rn, nqM_taped, nqM_mfault, nqM_mplace, nqM_told, nqM_hl, nqM_hd, NR_.w_rd, NR_.w_rn, NR_.w_taped, NR_.w_mfault, NR_.w_mplace, NR_.w_told, NR_.w_hl, NR_.w_hd] at hQ_68); (try simp only [hx_74, f_75, h_76, c_107, h_110, c_128, (eq_true h_131), hx_136, f_137, hx_138, if_true, if_false, mqM_tp, mqM_size, mqM_limit, mqM_to, mqM_frm, mqM_kind, mqM_number, mqM_sign, mqM_word, MT_.w_tp, MT_.w_size, MT_.w_limit, MT_.w_to, MT_.w_frm, MT_.w_kind, MT_.w_number, MT_.w_sign, MT_.w_word, nqM_rd, nqM_rn, nqM_taped, nqM_mfault, nqM_mplace, nqM_told, nqM_hl, nqM_hd, NR_.w_rd, NR_.w_rn, NR_.w_taped, NR_.w_mfault, NR_.w_mplace, NR_.w_told, NR_.w_hl, NR_.w_hd] at hQ_69); (try simp only [hx_74, f_75, h_76, c_107, h_110, c_128, (eq_true h_131), hx_136, f_137, hx_138, if_true, if_false, mqM_tp, mqM_size, mqM_limit, mqM_to, mqM_frm, mqM_kind, mqM_number, mqM_sign, mqM_word, MT_.w_tp, MT_.w_size, MT_.w_limit, MT_.w_to, MT_.w_frm, MT_.w_kind, MT_.w_number, MT_.w_sign, MT_.w_word, nqM_rd, nqM_rn, nqM_taped, nqM_mfault, nqM_mplace, nqM_told, nqM_hl, nqM_hd, NR_.w_rd, NR_.w_rn, NR_.w_taped, NR_.w_mfault, NR_.w_mplace, NR_.w_told, NR_.w_hl, NR_.w_hd] at u_70); (try simp only [hx_74, f_75, h_76, c_107, h_110, c_128, (eq_true h_131), hx_136, f_137, hx_138, if_true, if_false, mqM_tp, mqM_size, mqM_limit, mqM_to, mqM_frm, mqM_kind, mqM_number, mqM_sign, mqM_word, MT_.w_tp, MT_.w_size, MT_.w_limit, MT_.w_to, MT_.w_frm, MT_.w_kind, MT_.w_number, MT_.w_sign, MT_.w_word, nqM_rd, nqM_rn, nqM_taped, nqM_mfault, nqM_mplace, nqM_told, nqM_hl, nqM_hd, NR_.w_rd, NR_.w_rn, NR_.w_taped, NR_.w_mfault, NR_.w_mplace, NR_.w_told, NR_.w_hl, NR_.w_hd] at u_71); (try simp only [hx_74, f_75, h_76, c_107, h_110, c_128, (eq_true h_131), hx_136, f_137, hx_138, if_true, if_false, mqM_tp, mqM_size, mqM_limit, mqM_to, mqM_frm, mqM_kind, mqM_number, mqM_sign, mqM_word, MT_.w_tp, MT_.w_size, MT_.w_limit, MT_.w_to, MT_.w_frm, MT_.w_kind, MT_.w_number, MT_.w_sign, MT_.w_word, nqM_rd, nqM_rn, nqM_taped, nqM_mfault, nqM_mplace, nqM_told, nqM_hl, nqM_hd, NR_.w_rd, NR_.w_rn, NR_.w_taped, NR_.w_mfault, NR_.w_mplace, NR_.w_told, NR_.w_hl, NR_.w_hd] at u_72); (try simp only [hx_74, f_75, h_76, c_107, h_110, c_128, (eq_true h_131), hx_136, f_137, hx_138, if_true, if_false, mqM_tp, mqM_size, mqM_limit, mqM_to, mqM_frm, mqM_kind, mqM_number, mqM_sign, mqM_word, MT_.w_tp, MT_.w_size, MT_.w_limit, MT_.w_to, MT_.w_frm, MT_.w_kind, MT_.w_number, MT_.w_sign, MT_.w_word, nqM_rd, nqM_rn, nqM_taped, nqM_mfault, nqM_mplace, nqM_told, nqM_hl, nqM_hd, NR_.w_rd, NR_.w_rn, NR_.w_taped, NR_.w_mfault, NR_.w_mplace, NR_.w_told, NR_.w_hl, NR_.w_hd] at u_73); simp only [emqx, hs_129, hs_7, enqx, hs_130, hs_8, hQ_66, hQ_67, hQ_68, hQ_69, u_70, u_71, u_72, u_73, hx_74, f_75, h_76, c_107, h_110, c_128, (eq_true h_131), hx_136, f_137, hx_138, if_true, if_false, mqM_tp, mqM_size, mqM_limit, mqM_to, mqM_frm, mqM_kind, mqM_number, mqM_sign, mqM_word, MT_.w_tp, MT_.w_size, MT_.w_limit, MT_.w_to, MT_.w_frm, MT_.w_kind, MT_.w_number, MT_.w_sign, MT_.w_word, nqM_rd, nqM_rn, nqM_taped, nqM_mfault, nqM_mplace, nqM_told, nqM_hl, nqM_hd, NR_.w_rd, NR_.w_rn, NR_.w_taped, NR_.w_mfault, NR_.w_mplace, NR_.w_told, NR_.w_hl, NR_.w_hd]), (Or.inl ⟨tb_139, (hd_fq W9 hLx hkx (hd_fq W9 hLx hkx hd_61 hFI_102 (by decide)) hFI_123 (by decide))⟩), (Or.inl ⟨tb_140, (rj_fq W9 hLx hkx (rj_fq W9 hLx hkx nx_62 hGJ_103 (by decide)) hGJ_124 (by decide))⟩), (Eq.trans hx_141 mf_143.symm)⟩ dX12_table_67
  have l_9 : ∀ (n_9 : Nat) (I_144 : Nat → Nat → Int32) (J_145 : Nat → Nat → Int64) (hU_146 : Iw L κ R ow I_144) (hF_147 : Fq L κ ow [1200, 1202, 1203, 1204, 1205, 1206, 1207, 1208, 1209, 1210, 1211, 1213, 1223, 1224, 1225, 83400, 83500] I I_144) (hG_148 : Fq L κ ow [1212, 83900, 84000] J J_145) (v_149 : Int32) (rv_149 : Rg 0 72 v_149) (hq_150 : ((MTq I_144 J_145 x b_6), mzr v_149 (NRq I_144 J_145 x b_4 b_2)) = mTz s_7 s_8) (hd_151 : Hd_ R x I I_144) (nx_152 : Rj_ R x J J_145) (hm_153 : 72 < (v_149 : Int32).toInt + (n_9 : Int)), WG p l e { frames := 7, cells := 0, slots := 0, locals := 154 } s m ([.ref x] : List Value).toArray below meth c 3 0 0 (MQ below (Qi_ D cy L κ ln R (fun r I2 J2 => Iw L κ R ow I2 ∧ Fq L κ ow [1200, 1202, 1203, 1204, 1205, 1206, 1207, 1208, 1209, 1210, 1211, 1213, 1223, 1224, 1225, 83400, 83500] I I2 ∧ Fq L κ ow [1212, 83900, 84000] J J2 ∧ Rg (-2147483648) 2147483647 r ∧ (r = mTable (MTf R I J x) (NRf R I J x)) ∧ ((mTableB (MTf R I J x) (NRf R I J x) = none ∧ Hd_ R x I I2) ∨ Nt_ R x I2 (mTableB (MTf R I J x) (NRf R I J x))) ∧ ((mTableN (MTf R I J x) (NRf R I J x) = none ∧ Rj_ R x J J2) ∨ Ny_ R x J2 (mTableN (MTf R I J x) (NRf R I J x))) ∧ (I2 x 10 = mTableF (MTf R I J x) (NRf R I J x)))) ([.ref x] : List Value).toArray s 0 0 (Al_ L)) D cy (Al_ L) s.heap L κ ln R I_144 J_145 9 [(0, .ref x), (1, .int v_149)] [] := by
    intro n_9
    induction n_9 with
    | zero =>
      intro I_144 J_145 hU_146 hF_147 hG_148 v_149 rv_149 hq_150 hd_151 nx_152 hm_153
      exact ms_0 rv_149 hm_153
    | succ n_9 ih_9 =>
      intro I_144 J_145 hU_146 hF_147 hG_148 v_149 rv_149 hq_150 hd_151 nx_152 hm_153
      obtain ⟨s_154, hs_154⟩ : ∃ z, MTq I_144 J_145 x b_6 = z := ⟨_, rfl⟩
      obtain ⟨s_155, hs_155⟩ : ∃ z, NRq I_144 J_145 x b_4 b_2 = z := ⟨_, rfl⟩
      simp only [hs_154, hs_155] at hq_150
      have hQ_156 := hq_150.symm
      have u_157 := mzr_eq (i := v_149) (n := s_155) (rv_149)
      refine g_iload_n C 1 dX12_table_9 rfl rfl ?_
      refine g_bipush C (v := 72) dX12_table_10 (by decide) ?_
      refine g_icmp_ge C (tgt := 28) dX12_table_12 (by decide) (fun h_158 => ?_) (fun h_158 => ?_)
      · skip
        have r_159 := le_r (h_158) rc_72 rv_149
        refine g_aload_n C 0 dX12_table_28 rfl rfl ?_
        refine g_iconst C (v := 0) dX12_table_29 (by decide) ?_
        refine h_putZ C K hLx hkx f_12_197 p_12_24 (rg_bool (rg_w rc_0 (by decide) (by decide))) dX12_table_30 (fun I_160 hI_160 => ?_)
        have hU_161 := iw_put W9 hU_146 hI_160 (ro_o hkx (by decide)) (lo := 0) (hi := 1) (rfl) (rg_w rc_0 (by decide) (by decide)) rfl
        have hF_162 := fq_puto hF_147 hI_160 hkx (by decide) (by decide)
        have hs_163 : MTq I_160 J_145 x b_6 = s_154 := by rw [hI_160]; exact (mq_uIt wmqx (by decide)).trans hs_154
        have hs_164 : NRq I_160 J_145 x b_4 b_2 = (NR_.w_hl s_155 (0)) := by rw [hI_160]; exact ((nq_hl wnqx).trans (congrArg (fun z : NR_ => NR_.w_hl z (0)) hs_155)).trans rfl
        refine g_aload_n C 0 dX12_table_33 rfl rfl ?_
        refine g_iconst C (v := 0) dX12_table_34 (by decide) ?_
        refine h_putZ C K hLx hkx f_12_213 p_12_25 (rg_bool (rg_w rc_0 (by decide) (by decide))) dX12_table_35 (fun I_165 hI_165 => ?_)
        have hU_166 := iw_put W9 hU_161 hI_165 (ro_o hkx (by decide)) (lo := 0) (hi := 1) (rfl) (rg_w rc_0 (by decide) (by decide)) rfl
        have hF_167 := fq_puto hF_162 hI_165 hkx (by decide) (by decide)
        have hs_168 : MTq I_165 J_145 x b_6 = s_154 := by rw [hI_165]; exact (mq_uIt wmqx (by decide)).trans hs_163
        have hs_169 : NRq I_165 J_145 x b_4 b_2 = (NR_.w_hd (NR_.w_hl s_155 (0)) (0)) := by rw [hI_165]; exact ((nq_hd wnqx).trans (congrArg (fun z : NR_ => NR_.w_hd z (0)) hs_164)).trans rfl
        refine g_iconst C (v := 0) dX12_table_38 (by decide) ?_
        refine g_istore_n C dX12_table_39 rfl (by decide) (lo2 := [(1, .int 0), (0, .ref x)]) rfl ?_
        refine g_lo (is := [1, 0]) (lo2 := [(0, .ref x), (1, .int 0)]) rfl ?_
        exact l_40 941 I_165 J_145 hU_166 hF_167 hG_148 0 (by (try simp only [h_158, if_true, if_false, mqM_tp, mqM_size, mqM_limit, mqM_to, mqM_frm, mqM_kind, mqM_number, mqM_sign, mqM_word, MT_.w_tp, MT_.w_size, MT_.w_limit, MT_.w_to, MT_.w_frm, MT_.w_kind, MT_.w_number, MT_.w_sign, MT_.w_word, nqM_rd, nqM_rn, nqM_taped, nqM_mfault, nqM_mplace, nqM_told, nqM_hl, nqM_hd, NR_.w_rd, NR_.w_rn, NR_.w_taped, NR_.w_mfault, NR_.w_mplace, NR_.w_told, NR_.w_hl, NR_.w_hd] at hQ_156); (try simp only [h_158, if_true, if_false, mqM_tp, mqM_size, mqM_limit, mqM_to, mqM_frm, mqM_kind, mqM_number, mqM_sign, mqM_word, MT_.w_tp, MT_.w_size, MT_.w_limit, MT_.w_to, MT_.w_frm, MT_.w_kind, MT_.w_number, MT_.w_sign, MT_.w_word, nqM_rd, nqM_rn, nqM_taped, nqM_mfault, nqM_mplace, nqM_told, nqM_hl, nqM_hd, NR_.w_rd, NR_.w_rn, NR_.w_taped, NR_.w_mfault, NR_.w_mplace, NR_.w_told, NR_.w_hl, NR_.w_hd] at u_157); simp only [mTable, mTbStart, emqx, hs_168, hs_7, enqx, hs_169, hs_8, hQ_156, u_157, h_158, if_true, if_false, mqM_tp, mqM_size, mqM_limit, mqM_to, mqM_frm, mqM_kind, mqM_number, mqM_sign, mqM_word, MT_.w_tp, MT_.w_size, MT_.w_limit, MT_.w_to, MT_.w_frm, MT_.w_kind, MT_.w_number, MT_.w_sign, MT_.w_word, nqM_rd, nqM_rn, nqM_taped, nqM_mfault, nqM_mplace, nqM_told, nqM_hl, nqM_hd, NR_.w_rd, NR_.w_rn, NR_.w_taped, NR_.w_mfault, NR_.w_mplace, NR_.w_told, NR_.w_hl, NR_.w_hd]) (by (try simp only [h_158, if_true, if_false, mqM_tp, mqM_size, mqM_limit, mqM_to, mqM_frm, mqM_kind, mqM_number, mqM_sign, mqM_word, MT_.w_tp, MT_.w_size, MT_.w_limit, MT_.w_to, MT_.w_frm, MT_.w_kind, MT_.w_number, MT_.w_sign, MT_.w_word, nqM_rd, nqM_rn, nqM_taped, nqM_mfault, nqM_mplace, nqM_told, nqM_hl, nqM_hd, NR_.w_rd, NR_.w_rn, NR_.w_taped, NR_.w_mfault, NR_.w_mplace, NR_.w_told, NR_.w_hl, NR_.w_hd] at hQ_156); (try simp only [h_158, if_true, if_false, mqM_tp, mqM_size, mqM_limit, mqM_to, mqM_frm, mqM_kind, mqM_number, mqM_sign, mqM_word, MT_.w_tp, MT_.w_size, MT_.w_limit, MT_.w_to, MT_.w_frm, MT_.w_kind, MT_.w_number, MT_.w_sign, MT_.w_word, nqM_rd, nqM_rn, nqM_taped, nqM_mfault, nqM_mplace, nqM_told, nqM_hl, nqM_hd, NR_.w_rd, NR_.w_rn, NR_.w_taped, NR_.w_mfault, NR_.w_mplace, NR_.w_told, NR_.w_hl, NR_.w_hd] at u_157); simp only [mTableB, mTableN, mTableF, mTbStart, emqx, hs_168, hs_7, enqx, hs_169, hs_8, hQ_156, u_157, h_158, if_true, if_false, mqM_tp, mqM_size, mqM_limit, mqM_to, mqM_frm, mqM_kind, mqM_number, mqM_sign, mqM_word, MT_.w_tp, MT_.w_size, MT_.w_limit, MT_.w_to, MT_.w_frm, MT_.w_kind, MT_.w_number, MT_.w_sign, MT_.w_word, nqM_rd, nqM_rn, nqM_taped, nqM_mfault, nqM_mplace, nqM_told, nqM_hl, nqM_hd, NR_.w_rd, NR_.w_rn, NR_.w_taped, NR_.w_mfault, NR_.w_mplace, NR_.w_told, NR_.w_hl, NR_.w_hd]) (by (try simp only [h_158, if_true, if_false, mqM_tp, mqM_size, mqM_limit, mqM_to, mqM_frm, mqM_kind, mqM_number, mqM_sign, mqM_word, MT_.w_tp, MT_.w_size, MT_.w_limit, MT_.w_to, MT_.w_frm, MT_.w_kind, MT_.w_number, MT_.w_sign, MT_.w_word, nqM_rd, nqM_rn, nqM_taped, nqM_mfault, nqM_mplace, nqM_told, nqM_hl, nqM_hd, NR_.w_rd, NR_.w_rn, NR_.w_taped, NR_.w_mfault, NR_.w_mplace, NR_.w_told, NR_.w_hl, NR_.w_hd] at hQ_156); (try simp only [h_158, if_true, if_false, mqM_tp, mqM_size, mqM_limit, mqM_to, mqM_frm, mqM_kind, mqM_number, mqM_sign, mqM_word, MT_.w_tp, MT_.w_size, MT_.w_limit, MT_.w_to, MT_.w_frm, MT_.w_kind, MT_.w_number, MT_.w_sign, MT_.w_word, nqM_rd, nqM_rn, nqM_taped, nqM_mfault, nqM_mplace, nqM_told, nqM_hl, nqM_hd, NR_.w_rd, NR_.w_rn, NR_.w_taped, NR_.w_mfault, NR_.w_mplace, NR_.w_told, NR_.w_hl, NR_.w_hd] at u_157); simp only [mTableB, mTableN, mTableF, mTbStart, emqx, hs_168, hs_7, enqx, hs_169, hs_8, hQ_156, u_157, h_158, if_true, if_false, mqM_tp, mqM_size, mqM_limit, mqM_to, mqM_frm, mqM_kind, mqM_number, mqM_sign, mqM_word, MT_.w_tp, MT_.w_size, MT_.w_limit, MT_.w_to, MT_.w_frm, MT_.w_kind, MT_.w_number, MT_.w_sign, MT_.w_word, nqM_rd, nqM_rn, nqM_taped, nqM_mfault, nqM_mplace, nqM_told, nqM_hl, nqM_hd, NR_.w_rd, NR_.w_rn, NR_.w_taped, NR_.w_mfault, NR_.w_mplace, NR_.w_told, NR_.w_hl, NR_.w_hd]) (by (try simp only [h_158, if_true, if_false, mqM_tp, mqM_size, mqM_limit, mqM_to, mqM_frm, mqM_kind, mqM_number, mqM_sign, mqM_word, MT_.w_tp, MT_.w_size, MT_.w_limit, MT_.w_to, MT_.w_frm, MT_.w_kind, MT_.w_number, MT_.w_sign, MT_.w_word, nqM_rd, nqM_rn, nqM_taped, nqM_mfault, nqM_mplace, nqM_told, nqM_hl, nqM_hd, NR_.w_rd, NR_.w_rn, NR_.w_taped, NR_.w_mfault, NR_.w_mplace, NR_.w_told, NR_.w_hl, NR_.w_hd] at hQ_156); (try simp only [h_158, if_true, if_false, mqM_tp, mqM_size, mqM_limit, mqM_to, mqM_frm, mqM_kind, mqM_number, mqM_sign, mqM_word, MT_.w_tp, MT_.w_size, MT_.w_limit, MT_.w_to, MT_.w_frm, MT_.w_kind, MT_.w_number, MT_.w_sign, MT_.w_word, nqM_rd, nqM_rn, nqM_taped, nqM_mfault, nqM_mplace, nqM_told, nqM_hl, nqM_hd, NR_.w_rd, NR_.w_rn, NR_.w_taped, NR_.w_mfault, NR_.w_mplace, NR_.w_told, NR_.w_hl, NR_.w_hd] at u_157); simp only [mTableB, mTableN, mTableF, mTbStart, emqx, hs_168, hs_7, enqx, hs_169, hs_8, hQ_156, u_157, h_158, if_true, if_false, mqM_tp, mqM_size, mqM_limit, mqM_to, mqM_frm, mqM_kind, mqM_number, mqM_sign, mqM_word, MT_.w_tp, MT_.w_size, MT_.w_limit, MT_.w_to, MT_.w_frm, MT_.w_kind, MT_.w_number, MT_.w_sign, MT_.w_word, nqM_rd, nqM_rn, nqM_taped, nqM_mfault, nqM_mplace, nqM_told, nqM_hl, nqM_hd, NR_.w_rd, NR_.w_rn, NR_.w_taped, NR_.w_mfault, NR_.w_mplace, NR_.w_told, NR_.w_hl, NR_.w_hd]) (hd_u (r := 0) W9 hLx hkx (hd_u (r := 0) W9 hLx hkx hd_151 hI_160 (Or.inl (ro_o hkx (by decide)))) hI_165 (Or.inl (ro_o hkx (by decide)))) nx_152 (by obtain ⟨z, hz, rz⟩ := ex_getw (I := I_165) (a := x) (j := 5) (lo := 0) (hi := 940) hU_166.1 hLx (ro_o hkx (by decide)) rfl; rw [hz]; have := rz.1; omega)
      · skip
        have r_170 := lt_l (hi := 71) (nle h_158) rv_149 rc_72 (by decide)
        refine g_aload_n C 0 dX12_table_15 rfl rfl ?_
        refine g_getR C K hLx hkx f_12_16 hb_4 dX12_table_16 ?_
        refine g_iload_n C 1 dX12_table_19 rfl rfl ?_
        refine g_iconst C (v := 0) dX12_table_20 (by decide) ?_
        refine h_iast C K hb_4L hb_4k (v_149.toNatClampNeg) (rfl) (ix_0 r_170 (by decide)) (ix_lt r_170 (by decide) hb_4n (by decide)) dX12_table_21 (fun I_171 hI_171 => ?_)
        have hU_172 := iw_put0 W9 hU_146 hI_171 (ro_a hb_4k (by decide) hb_4o hkx rfl) (z0_in _) rfl
        have hF_173 := fq_puta hF_147 hI_171 (ro_a hb_4k (by decide) hb_4o hkx rfl) (by decide) (by decide)
        have hs_174 : MTq I_171 J_145 x b_6 = s_154 := by rw [hI_171]; exact (mq_oI wmqx (ro_a hb_4k (by decide) hb_4o hkx rfl) (by decide)).trans hs_154
        have hs_175 : NRq I_171 J_145 x b_4 b_2 = (NR_.w_rd s_155 (up1 (s_155.rd) (v_149.toNatClampNeg) (0))) := by rw [hI_171]; exact ((nq_rd wnqx).trans (congrArg (fun z : NR_ => NR_.w_rd z (up1 (z.rd) (v_149.toNatClampNeg) (0))) hs_155)).trans rfl
        obtain ⟨x_176, hx_176, rx_176, tx_176⟩ := ex_add (y := 1) 1 72 r_170 rc_1 (by decide) (by decide) (by decide) (by decide)
        refine g_iinc C dX12_table_22 (k := 1) (v := x_176) rfl hx_176 (by decide) (lo2 := [(1, .int x_176), (0, .ref x)]) rfl ?_
        refine g_goto C (tgt := 9) dX12_table_25 (by decide) ?_
        refine g_lo (is := [1, 0]) (lo2 := [(0, .ref x), (1, .int x_176)]) rfl ?_
        exact ih_9 I_171 J_145 hU_172 hF_173 hG_148 x_176 (rg_w rx_176 (by decide) (by decide)) (by (try simp only [h_158, (nle h_158), hx_176, if_true, if_false, mqM_tp, mqM_size, mqM_limit, mqM_to, mqM_frm, mqM_kind, mqM_number, mqM_sign, mqM_word, MT_.w_tp, MT_.w_size, MT_.w_limit, MT_.w_to, MT_.w_frm, MT_.w_kind, MT_.w_number, MT_.w_sign, MT_.w_word, nqM_rd, nqM_rn, nqM_taped, nqM_mfault, nqM_mplace, nqM_told, nqM_hl, nqM_hd, NR_.w_rd, NR_.w_rn, NR_.w_taped, NR_.w_mfault, NR_.w_mplace, NR_.w_told, NR_.w_hl, NR_.w_hd] at hQ_156); (try simp only [h_158, (nle h_158), hx_176, if_true, if_false, mqM_tp, mqM_size, mqM_limit, mqM_to, mqM_frm, mqM_kind, mqM_number, mqM_sign, mqM_word, MT_.w_tp, MT_.w_size, MT_.w_limit, MT_.w_to, MT_.w_frm, MT_.w_kind, MT_.w_number, MT_.w_sign, MT_.w_word, nqM_rd, nqM_rn, nqM_taped, nqM_mfault, nqM_mplace, nqM_told, nqM_hl, nqM_hd, NR_.w_rd, NR_.w_rn, NR_.w_taped, NR_.w_mfault, NR_.w_mplace, NR_.w_told, NR_.w_hl, NR_.w_hd] at u_157); simp only [emqx, hs_174, hs_7, enqx, hs_175, hs_8, hQ_156, u_157, h_158, (nle h_158), hx_176, if_true, if_false, mqM_tp, mqM_size, mqM_limit, mqM_to, mqM_frm, mqM_kind, mqM_number, mqM_sign, mqM_word, MT_.w_tp, MT_.w_size, MT_.w_limit, MT_.w_to, MT_.w_frm, MT_.w_kind, MT_.w_number, MT_.w_sign, MT_.w_word, nqM_rd, nqM_rn, nqM_taped, nqM_mfault, nqM_mplace, nqM_told, nqM_hl, nqM_hd, NR_.w_rd, NR_.w_rn, NR_.w_taped, NR_.w_mfault, NR_.w_mplace, NR_.w_told, NR_.w_hl, NR_.w_hd]) (hd_u  W9 hLx hkx hd_151 hI_171 (Or.inr (Or.inl ⟨(ro_a hb_4k (by decide) hb_4o hkx rfl), by decide⟩))) nx_152 (ms_1 hm_153 (ti_k tx_176 rc_1) (by decide))
  refine g_aload_n C 0 dX12_table_0 rfl rfl ?_
  refine g_sipush C (v := 900) dX12_table_1 (by decide) ?_
  refine g_callVV C K (c_X12_begin W9 hLx hkx 900 (rg_w rc_900 (by decide) (by decide)) hU) hLx hkx (by decide) rfl v_12_216 rfl ⟨rfl, rfl⟩ ⟨Nat.le_of_ble_eq_true rfl, Nat.le_of_ble_eq_true rfl⟩ (Nat.le_of_ble_eq_true rfl) ⟨Nat.le_of_ble_eq_true rfl, Nat.le_of_ble_eq_true rfl⟩ dX12_table_4 rfl (st := []) (fun I_178 J_179 h_180 => ?_)
  obtain ⟨hUI_178, hFI_178, hGJ_179, fx_177⟩ := h_180
  have hF_181 := fq_tr hF hFI_178 (by decide)
  have hG_182 := fq_tr hG hGJ_179 (by decide)
  obtain ⟨s_184, hs_184⟩ : ∃ z, MTq I_178 J_179 x b_6 = z := ⟨_, rfl⟩
  obtain ⟨s_185, hs_185⟩ : ∃ z, NRq I_178 J_179 x b_4 b_2 = z := ⟨_, rfl⟩
  have c_183 : mBegin (900) (s_7) (s_8) = (s_184, s_185) := by have q := fx_177; simp only [emqx, enqx, hs_7, hs_8, hs_184, hs_185] at q; exact q.symm
  refine g_iconst C (v := 0) dX12_table_7 (by decide) ?_
  refine g_istore_n C dX12_table_8 rfl (by decide) (lo2 := [(1, .int 0), (0, .ref x)]) rfl ?_
  refine g_lo (is := [1, 0]) (lo2 := [(0, .ref x), (1, .int 0)]) rfl ?_
  exact l_9 73 I_178 J_179 hUI_178 hF_181 hG_182 0 (rg_w rc_0 (by decide) (by decide)) (by simp only [mTable, mTz, emqx, hs_184, hs_7, enqx, hs_185, hs_8, c_183, if_true, if_false, mqM_tp, mqM_size, mqM_limit, mqM_to, mqM_frm, mqM_kind, mqM_number, mqM_sign, mqM_word, MT_.w_tp, MT_.w_size, MT_.w_limit, MT_.w_to, MT_.w_frm, MT_.w_kind, MT_.w_number, MT_.w_sign, MT_.w_word, nqM_rd, nqM_rn, nqM_taped, nqM_mfault, nqM_mplace, nqM_told, nqM_hl, nqM_hd, NR_.w_rd, NR_.w_rn, NR_.w_taped, NR_.w_mfault, NR_.w_mplace, NR_.w_told, NR_.w_hl, NR_.w_hd]) (hd_fq W9 hLx hkx hd_rf hFI_178 (by decide)) (rj_fq W9 hLx hkx rj_rf hGJ_179 (by decide)) (ms_s (a := 0) (b := 72) (N := 73) (rg_w rc_0 (by decide) (by decide)) (by decide))
set_option maxRecDepth 100000 in
set_option maxHeartbeats 8000000 in
theorem c_X12_fault {l : Launch} {D : va_G} {cy : Nat → ClassId} {L : List Nat} {κ ln : Nat → Nat} {R : Nat → Nat → Option Nat} {I : Nat → Nat → Int32} {J : Nat → Nat → Int64} {ow : Nat → Nat × Nat} (W9 : ∀ a ∈ L, Shp L κ ln R ow a) {x : Nat} (hLx : x ∈ L) (hkx : κ x = 12) (hU : Iw L κ R ow I) : CtI l yX12_fault cX12_fault 1 (some .int) { frames := 0, cells := 0, slots := 0, locals := 0 } D cy L κ ln R I J [.ref x] (fun r I2 J2 => Iw L κ R ow I2 ∧ Fq L κ ow [1200] I I2 ∧ Fq L κ ow [] J J2 ∧ Rg (-2147483648) 2147483647 r ∧ (r = I x 10)) := by
  obtain ⟨x_1, hx_1, rx_1⟩ := ex_getw (I := I) (a := x) (j := 10) (lo := (-2147483648)) (hi := 2147483647) hU.1 hLx (ro_o hkx (by decide)) rfl
  refine CtI.of (by decide +kernel) (Nat.le_of_ble_eq_true rfl) ?_
  intro p e s m below meth c B K
  have C := B.1
  have hF : Fq L κ ow [1200] I I := fq_rf
  have hG : Fq L κ ow [] J J := fq_rf
  refine g_lo (is := [0]) (lo2 := [(0, .ref x)]) rfl ?_
  refine g_aload_n C 0 dX12_fault_0 rfl rfl ?_
  refine g_iconst C (v := 0) dX12_fault_1 (by decide) ?_
  refine h_putI C K hLx hkx f_12_82 p_12_0 dX12_fault_2 (fun I_2 hI_2 => ?_)
  have hU_3 := iw_put W9 hU hI_2 (ro_o hkx (by decide)) (lo := (-2147483648)) (hi := 2147483647) (rfl) (rg_all _) rfl
  have hF_4 := fq_puto hF hI_2 hkx (by decide) (by decide)
  refine g_aload_n C 0 dX12_fault_5 rfl rfl ?_
  refine g_getI C K hLx hkx f_12_140 (v := x_1) (kp_j hI_2 (by decide) hx_1) dX12_fault_6 ?_
  exact g_zret (ty := .int) (r := x_1) B K rfl (rfl) ⟨hU_3, hF_4, hG, rx_1, ((hx_1).symm)⟩ dX12_fault_9
set_option maxRecDepth 100000 in
set_option maxHeartbeats 8000000 in
theorem c_X12_has {l : Launch} {D : va_G} {cy : Nat → ClassId} {L : List Nat} {κ ln : Nat → Nat} {R : Nat → Nat → Option Nat} {I : Nat → Nat → Int32} {J : Nat → Nat → Int64} {ow : Nat → Nat × Nat} (W9 : ∀ a ∈ L, Shp L κ ln R ow a) (a0 : Int32) (a1 : Int32) (hU : Iw L κ R ow I) : CtI l yX12_has cX12_has 2 (some .boolean) { frames := 0, cells := 0, slots := 0, locals := 0 } D cy L κ ln R I J [.int a0, .int a1] (fun r I2 J2 => I = I2 ∧ J = J2 ∧ Rg 0 1 r ∧ (¬ r = 0 → a0 >>> (a1 &&& 31) &&& 1 = 1)) := by
  refine CtI.of (by decide +kernel) (Nat.le_of_ble_eq_true rfl) ?_
  intro p e s m below meth c B K
  have C := B.1
  refine g_lo (is := [0, 1]) (lo2 := [(0, .int a0), (1, .int a1)]) rfl ?_
  refine g_iload_n C 0 dX12_has_0 rfl rfl ?_
  refine g_iload_n C 1 dX12_has_1 rfl rfl ?_
  obtain ⟨x_1, hx_1, rx_1⟩ := ex_any (z0 := a0 >>> (a1 &&& 31))
  refine g_ishr C (v := x_1) dX12_has_2 hx_1 ?_
  refine g_iconst C (v := 1) dX12_has_3 (by decide) ?_
  obtain ⟨x_2, hx_2, rx_2⟩ := ex_andr (x := x_1) (y := 1) (b := 1) (rg_w rc_1 (by decide) (by decide))
  refine g_iand C (v := x_2) dX12_has_4 hx_2 ?_
  refine g_iconst C (v := 1) dX12_has_5 (by decide) ?_
  refine g_icmp_ne C (tgt := 13) dX12_has_6 (by decide) (fun h_3 => ?_) (fun h_3 => ?_)
  · skip
    have n_4 : ¬ x_2 = 1 := h_3
    have r_5 := ne_hi (hi := 0) n_4 rx_2 rc_1 rfl (by decide)
    refine g_iconst C (v := 0) dX12_has_13 (by decide) ?_
    exact g_zret (ty := .boolean) (r := 0) B K rfl (rfl) ⟨rfl, rfl, rg_w rc_0 (by decide) (by decide), (fun q => absurd rfl q)⟩ dX12_has_14
  · skip
    have r_6 := (⟨(eq_rg (h_3) rc_1).1, (rx_2).2⟩ : Rg 1 1 x_2)
    refine g_iconst C (v := 1) dX12_has_9 (by decide) ?_
    refine g_goto C (tgt := 14) dX12_has_10 (by decide) ?_
    exact g_zret (ty := .boolean) (r := 1) B K rfl (rfl) ⟨rfl, rfl, rg_w rc_1 (by decide) (by decide), (fun _ => by rw [hx_1, hx_2]; exact h_3)⟩ dX12_has_14
set_option maxRecDepth 100000 in
set_option maxHeartbeats 8000000 in
theorem c_X12_isDead {l : Launch} {D : va_G} {cy : Nat → ClassId} {L : List Nat} {κ ln : Nat → Nat} {R : Nat → Nat → Option Nat} {I : Nat → Nat → Int32} {J : Nat → Nat → Int64} {ow : Nat → Nat × Nat} (W9 : ∀ a ∈ L, Shp L κ ln R ow a) {x : Nat} (hLx : x ∈ L) (hkx : κ x = 12) (a0 : Int32) (ra0 : Rg 0 6 a0) (hU : Iw L κ R ow I) : CtI l yX12_isDead cX12_isDead 2 (some .boolean) { frames := 1, cells := 0, slots := 0, locals := 21 } D cy L κ ln R I J [.ref x, .int a0] (fun r I2 J2 => I = I2 ∧ J = J2 ∧ Rg 0 1 r) := by
  refine CtI.of (by decide +kernel) (Nat.le_of_ble_eq_true rfl) ?_
  intro p e s m below meth c B K
  have C := B.1
  obtain ⟨b_1, hb_1, hb_1L, hb_1k, hb_1n, hb_1o⟩ := shp_a (W9 x hLx) hkx 14 14 389 rfl (by decide)
  refine g_lo (is := [0, 1]) (lo2 := [(0, .ref x), (1, .int a0)]) rfl ?_
  refine g_aload_n C 0 dX12_isDead_0 rfl rfl ?_
  refine g_getR C K hLx hkx f_12_13 hb_1 dX12_isDead_1 ?_
  refine g_bipush C (v := 73) dX12_isDead_4 (by decide) ?_
  obtain ⟨x_2, hx_2, rx_2⟩ := ex_any (z0 := I b_1 (73))
  refine h_iald C K hb_1L hb_1k (v := x_2) (73) (by decide) (by decide) (by rw [hb_1n]; decide) hx_2 dX12_isDead_6 ?_
  refine g_iload_n C 1 dX12_isDead_7 rfl rfl ?_
  refine g_callSI C K (c_X12_has W9 x_2 a0  hU) s_12_231 rfl ⟨rfl, rfl⟩ ⟨Nat.le_of_ble_eq_true rfl, Nat.le_of_ble_eq_true rfl⟩ (Nat.le_of_ble_eq_true rfl) ⟨Nat.le_of_ble_eq_true rfl, Nat.le_of_ble_eq_true rfl⟩ dX12_isDead_8 rfl (st := []) (fun x_3 I_4 J_5 h_6 => ?_)
  obtain ⟨rfl, rfl, rx_3, ex_3⟩ := h_6
  exact g_zret (ty := .boolean) (r := x_3) B K rfl (nar_z (rx_3)) ⟨rfl, rfl, rx_3⟩ dX12_isDead_11
set_option maxRecDepth 100000 in
set_option maxHeartbeats 8000000 in
theorem c_X12_isPerson {l : Launch} {D : va_G} {cy : Nat → ClassId} {L : List Nat} {κ ln : Nat → Nat} {R : Nat → Nat → Option Nat} {I : Nat → Nat → Int32} {J : Nat → Nat → Int64} {ow : Nat → Nat × Nat} (W9 : ∀ a ∈ L, Shp L κ ln R ow a) {x : Nat} (hLx : x ∈ L) (hkx : κ x = 12) (a0 : Int32) (hU : Iw L κ R ow I) : CtI l yX12_isPerson cX12_isPerson 2 (some .boolean) { frames := 1, cells := 0, slots := 0, locals := 22 } D cy L κ ln R I J [.ref x, .int a0] (fun r I2 J2 => I = I2 ∧ J = J2 ∧ Rg 0 1 r ∧ (¬ r = 0 → Rg 0 6 a0)) := by
  refine CtI.of (by decide +kernel) (Nat.le_of_ble_eq_true rfl) ?_
  intro p e s m below meth c B K
  have C := B.1
  obtain ⟨b_1, hb_1, hb_1L, hb_1k, hb_1n, hb_1o⟩ := shp_a (W9 x hLx) hkx 14 14 389 rfl (by decide)
  refine g_lo (is := [0, 1]) (lo2 := [(0, .ref x), (1, .int a0)]) rfl ?_
  refine g_iload_n C 1 dX12_isPerson_0 rfl rfl ?_
  refine g_iconst C (v := 0) dX12_isPerson_1 (by decide) ?_
  refine g_aload_n C 0 dX12_isPerson_2 rfl rfl ?_
  refine g_getR C K hLx hkx f_12_13 hb_1 dX12_isPerson_3 ?_
  refine g_iconst C (v := 0) dX12_isPerson_6 (by decide) ?_
  obtain ⟨x_2, hx_2, rx_2⟩ := ex_getw (I := I) (a := b_1) (j := 0) (lo := 0) (hi := 7) hU.1 hb_1L (ro_a hb_1k (by decide) hb_1o hkx rfl) (by decide)
  refine h_iald C K hb_1L hb_1k (v := x_2) (0) (by decide) (by decide) (by rw [hb_1n]; decide) hx_2 dX12_isPerson_7 ?_
  refine g_iconst C (v := 1) dX12_isPerson_8 (by decide) ?_
  obtain ⟨x_3, hx_3, rx_3, tx_3⟩ := ex_sub (-1) 6 rx_2 rc_1 (by decide) (by decide) (by decide) (by decide)
  refine g_isub C (v := x_3) dX12_isPerson_9 hx_3 ?_
  refine g_callSI C K (c_X12_isIn W9 a0 0 x_3 (rg_w rc_0 (by decide) (by decide)) (rg_w rx_3 (by decide) (by decide)) hU) s_12_149 rfl ⟨rfl, rfl⟩ ⟨Nat.le_of_ble_eq_true rfl, Nat.le_of_ble_eq_true rfl⟩ (Nat.le_of_ble_eq_true rfl) ⟨Nat.le_of_ble_eq_true rfl, Nat.le_of_ble_eq_true rfl⟩ dX12_isPerson_10 rfl (st := []) (fun x_4 I_5 J_6 h_7 => ?_)
  obtain ⟨rfl, rfl, rx_4, fx_4, ex_4⟩ := h_7
  exact g_zret (ty := .boolean) (r := x_4) B K rfl (nar_z (rx_4)) ⟨rfl, rfl, rx_4, (fun hq => by have n_8 : ¬ x_4 = 0 := hq; have r_9 := ne_lo (lo := 1) n_8 rx_4 rc_0 rfl (by decide); have r_10 := le_r (((ex_4.1) n_8)) rc_0 (rg_all a0); have r_11 := le_l (((ex_4.2) n_8)) r_10 rx_3; have r_12 := le_r (((ex_4.2) n_8)) r_10 rx_3; have r_13 := rg_der (k := (-1)) (lo := 1) (hi := 7) (ti_s tx_3 rc_1 (by decide)) r_12 rx_2 (by decide) (by decide); exact r_11)⟩ dX12_isPerson_13
set_option maxRecDepth 100000 in
set_option maxHeartbeats 8000000 in
theorem c_X12_onPlate {l : Launch} {D : va_G} {cy : Nat → ClassId} {L : List Nat} {κ ln : Nat → Nat} {R : Nat → Nat → Option Nat} {I : Nat → Nat → Int32} {J : Nat → Nat → Int64} {ow : Nat → Nat × Nat} (W9 : ∀ a ∈ L, Shp L κ ln R ow a) {x : Nat} (hLx : x ∈ L) (hkx : κ x = 12) (a0 : Int32) (a1 : Int32) (ra0 : Rg 0 6 a0) (ra1 : Rg 0 5 a1) (hU : Iw L κ R ow I) : CtI l yX12_onPlate cX12_onPlate 3 (some .int) { frames := 0, cells := 0, slots := 0, locals := 0 } D cy L κ ln R I J [.ref x, .int a0, .int a1] (fun r I2 J2 => I = I2 ∧ J = J2 ∧ Rg 0 379 r ∧ (∀ a, R x 14 = some a → r = I a (105 + 6 * a0.toNatClampNeg + a1.toNatClampNeg))) := by
  refine CtI.of (by decide +kernel) (Nat.le_of_ble_eq_true rfl) ?_
  intro p e s m below meth c B K
  have C := B.1
  obtain ⟨b_1, hb_1, hb_1L, hb_1k, hb_1n, hb_1o⟩ := shp_a (W9 x hLx) hkx 14 14 389 rfl (by decide)
  refine g_lo (is := [0, 1, 2]) (lo2 := [(0, .ref x), (1, .int a0), (2, .int a1)]) rfl ?_
  refine g_aload_n C 0 dX12_onPlate_0 rfl rfl ?_
  refine g_getR C K hLx hkx f_12_13 hb_1 dX12_onPlate_1 ?_
  refine g_bipush C (v := 105) dX12_onPlate_4 (by decide) ?_
  refine g_bipush C (v := 6) dX12_onPlate_6 (by decide) ?_
  refine g_iload_n C 1 dX12_onPlate_8 rfl rfl ?_
  obtain ⟨x_2, hx_2, rx_2, tx_2⟩ := ex_mulT 0 36 rc_6 ra0 (by decide) (by decide) (by decide) (by decide) (by decide)
  refine g_imul C (v := x_2) dX12_onPlate_9 hx_2 ?_
  obtain ⟨x_3, hx_3, rx_3, tx_3⟩ := ex_add 105 141 rc_105 rx_2 (by decide) (by decide) (by decide) (by decide)
  refine g_iadd C (v := x_3) dX12_onPlate_10 hx_3 ?_
  refine g_iload_n C 2 dX12_onPlate_11 rfl rfl ?_
  obtain ⟨x_4, hx_4, rx_4, tx_4⟩ := ex_add 105 146 rx_3 ra1 (by decide) (by decide) (by decide) (by decide)
  refine g_iadd C (v := x_4) dX12_onPlate_12 hx_4 ?_
  obtain ⟨x_5, hx_5, rx_5⟩ := ex_getw (I := I) (a := b_1) (j := x_4.toNatClampNeg) (lo := 0) (hi := 379) hU.1 hb_1L (ro_a hb_1k (by decide) hb_1o hkx rfl) (bn_834.trans (zq_105 (ix_k (lo := 105) (hi := 146) rx_4 (by decide) (by decide) (by decide))))
  refine h_iald C K hb_1L hb_1k (v := x_5) (x_4.toNatClampNeg) (rfl) (ix_0 rx_4 (by decide)) (ix_lt rx_4 (by decide) hb_1n (by decide)) hx_5 dX12_onPlate_13 ?_
  exact g_zret (ty := .int) (r := x_5) B K rfl (rfl) ⟨rfl, rfl, rx_5, (fun a ha => by rw [hb_1] at ha; cases ha; rw [← (show x_4.toNatClampNeg = 105 + 6 * a0.toNatClampNeg + a1.toNatClampNeg from by rw [nx_a tx_4 rx_3 ra1 (by decide), nx_a tx_3 rc_105 rx_2 (by decide), nx_m (k := 6) tx_2 ra0 (by decide)]; rfl)]; exact hx_5.symm)⟩ dX12_onPlate_14
set_option maxRecDepth 100000 in
set_option maxHeartbeats 8000000 in
theorem c_X12_plateOf {l : Launch} {D : va_G} {cy : Nat → ClassId} {L : List Nat} {κ ln : Nat → Nat} {R : Nat → Nat → Option Nat} {I : Nat → Nat → Int32} {J : Nat → Nat → Int64} {ow : Nat → Nat × Nat} (W9 : ∀ a ∈ L, Shp L κ ln R ow a) {x : Nat} (hLx : x ∈ L) (hkx : κ x = 12) (a0 : Int32) (ra0 : Rg 0 6 a0) (hU : Iw L κ R ow I) : CtI l yX12_plateOf cX12_plateOf 4 (some .int) { frames := 1, cells := 0, slots := 0, locals := 22 } D cy L κ ln R I J [.ref x, .int a0] (fun r I2 J2 => I = I2 ∧ J = J2 ∧ Rg 0 2274 r) := by
  refine CtI.of (by decide +kernel) (Nat.le_of_ble_eq_true rfl) ?_
  intro p e s m below meth c B K
  have C := B.1
  refine g_lo (is := [0, 1]) (lo2 := [(0, .ref x), (1, .int a0)]) rfl ?_
  have l_4 : ∀ (n_4 : Nat) (v_1 : Int32) (rv_1 : Rg 0 2147483647 v_1) (v_2 : Int32) (rv_2 : Rg 0 6 v_2) (hj_3 : 0 ≤ v_1.toInt ∧ v_1.toInt ≤ 379 * v_2.toInt) (hm_4 : 6 < (v_2 : Int32).toInt + (n_4 : Int)), WG p l e { frames := 1, cells := 0, slots := 0, locals := 22 } s m ([.ref x, .int a0] : List Value).toArray below meth c 4 0 0 (MQ below (Qi_ D cy L κ ln R (fun r I2 J2 => I = I2 ∧ J = J2 ∧ Rg 0 2274 r)) ([.ref x, .int a0] : List Value).toArray s 0 0 (Al_ L)) D cy (Al_ L) s.heap L κ ln R I J 4 [(0, .ref x), (1, .int a0), (2, .int v_1), (3, .int v_2)] [] := by
    intro n_4
    induction n_4 with
    | zero =>
      intro v_1 rv_1 v_2 rv_2 hj_3 hm_4
      exact ms_0 rv_2 hm_4
    | succ n_4 ih_4 =>
      intro v_1 rv_1 v_2 rv_2 hj_3 hm_4
      refine g_iload_n C 3 dX12_plateOf_4 rfl rfl ?_
      refine g_bipush C (v := 6) dX12_plateOf_5 (by decide) ?_
      refine g_icmp_ge C (tgt := 25) dX12_plateOf_7 (by decide) (fun h_5 => ?_) (fun h_5 => ?_)
      · skip
        have r_6 := le_r (h_5) rc_6 rv_2
        refine g_iload_n C 2 dX12_plateOf_25 rfl rfl ?_
        exact g_zret (ty := .int) (r := v_1) B K rfl (rfl) ⟨rfl, rfl, (pl_rg hj_3 rv_2)⟩ dX12_plateOf_26
      · skip
        have r_7 := lt_l (hi := 5) (nle h_5) rv_2 rc_6 (by decide)
        refine g_iload_n C 2 dX12_plateOf_10 rfl rfl ?_
        refine g_aload_n C 0 dX12_plateOf_11 rfl rfl ?_
        refine g_iload_n C 1 dX12_plateOf_12 rfl rfl ?_
        refine g_iload_n C 3 dX12_plateOf_13 rfl rfl ?_
        refine g_callVI C K (c_X12_onPlate W9 hLx hkx a0 v_2 (ra0) (r_7) hU) hLx hkx (by decide) rfl v_12_234 rfl ⟨rfl, rfl⟩ ⟨Nat.le_of_ble_eq_true rfl, Nat.le_of_ble_eq_true rfl⟩ (Nat.le_of_ble_eq_true rfl) ⟨Nat.le_of_ble_eq_true rfl, Nat.le_of_ble_eq_true rfl⟩ dX12_plateOf_14 rfl (st := [.int v_1]) (fun x_8 I_9 J_10 h_11 => ?_)
        obtain ⟨rfl, rfl, rx_8, ex_8⟩ := h_11
        obtain ⟨x_12, hx_12, rx_12, tx_12⟩ := ex_add 0 2653 (pl_rg hj_3 rv_2) rx_8 (by decide) (by decide) (by decide) (by decide)
        refine g_iadd C (v := x_12) dX12_plateOf_17 hx_12 ?_
        refine g_istore_n C dX12_plateOf_18 rfl (by decide) (lo2 := [(2, .int x_12), (0, .ref x), (1, .int a0), (3, .int v_2)]) rfl ?_
        obtain ⟨x_13, hx_13, rx_13, tx_13⟩ := ex_add (y := 1) 1 6 r_7 rc_1 (by decide) (by decide) (by decide) (by decide)
        refine g_iinc C dX12_plateOf_19 (k := 3) (v := x_13) rfl hx_13 (by decide) (lo2 := [(3, .int x_13), (2, .int x_12), (0, .ref x), (1, .int a0)]) rfl ?_
        refine g_goto C (tgt := 4) dX12_plateOf_22 (by decide) ?_
        refine g_lo (is := [2, 3, 1, 0]) (lo2 := [(0, .ref x), (1, .int a0), (2, .int x_12), (3, .int x_13)]) rfl ?_
        exact ih_4 x_12 (rg_w rx_12 (by decide) (by decide)) x_13 (rg_w rx_13 (by decide) (by decide)) ⟨by have q1 := tx_12; have q2 := hj_3; have q3 := (rx_8).1; omega, by have q1 := tx_12; have q2 := hj_3; have q3 := (rx_8).2; have q4 := (ti_k tx_13 rc_1); omega⟩ (ms_1 hm_4 (ti_k tx_13 rc_1) (by decide))
  refine g_iconst C (v := 0) dX12_plateOf_0 (by decide) ?_
  refine g_istore_n C dX12_plateOf_1 rfl (by decide) (lo2 := [(2, .int 0), (0, .ref x), (1, .int a0)]) rfl ?_
  refine g_iconst C (v := 0) dX12_plateOf_2 (by decide) ?_
  refine g_istore_n C dX12_plateOf_3 rfl (by decide) (lo2 := [(3, .int 0), (2, .int 0), (0, .ref x), (1, .int a0)]) rfl ?_
  refine g_lo (is := [2, 3, 1, 0]) (lo2 := [(0, .ref x), (1, .int a0), (2, .int 0), (3, .int 0)]) rfl ?_
  exact l_4 7 0 (rg_w rc_0 (by decide) (by decide)) 0 (rg_w rc_0 (by decide) (by decide)) ⟨by decide, by decide⟩ (ms_s (a := 0) (b := 6) (N := 7) (rg_w rc_0 (by decide) (by decide)) (by decide))
set_option maxRecDepth 100000 in
set_option maxHeartbeats 8000000 in
theorem c_X12_refuse {l : Launch} {D : va_G} {cy : Nat → ClassId} {L : List Nat} {κ ln : Nat → Nat} {R : Nat → Nat → Option Nat} {I : Nat → Nat → Int32} {J : Nat → Nat → Int64} {ow : Nat → Nat × Nat} (W9 : ∀ a ∈ L, Shp L κ ln R ow a) {x : Nat} (hLx : x ∈ L) (hkx : κ x = 12) (hU : Iw L κ R ow I) : CtI l yX12_refuse cX12_refuse 1 (some .int) { frames := 0, cells := 0, slots := 0, locals := 0 } D cy L κ ln R I J [.ref x] (fun r I2 J2 => Iw L κ R ow I2 ∧ Fq L κ ow [1200] I I2 ∧ Fq L κ ow [] J J2 ∧ Rg 0 0 r) := by
  refine CtI.of (by decide +kernel) (Nat.le_of_ble_eq_true rfl) ?_
  intro p e s m below meth c B K
  have C := B.1
  have hF : Fq L κ ow [1200] I I := fq_rf
  have hG : Fq L κ ow [] J J := fq_rf
  refine g_lo (is := [0]) (lo2 := [(0, .ref x)]) rfl ?_
  refine g_aload_n C 0 dX12_refuse_0 rfl rfl ?_
  refine g_iconst C (v := 1) dX12_refuse_1 (by decide) ?_
  refine h_putI C K hLx hkx f_12_82 p_12_0 dX12_refuse_2 (fun I_1 hI_1 => ?_)
  have hU_2 := iw_put W9 hU hI_1 (ro_o hkx (by decide)) (lo := (-2147483648)) (hi := 2147483647) (rfl) (rg_all _) rfl
  have hF_3 := fq_puto hF hI_1 hkx (by decide) (by decide)
  refine g_iconst C (v := 0) dX12_refuse_5 (by decide) ?_
  exact g_zret (ty := .int) (r := 0) B K rfl (rfl) ⟨hU_2, hF_3, hG, rc_0⟩ dX12_refuse_6
set_option maxRecDepth 100000 in
set_option maxHeartbeats 8000000 in
theorem c_X12_person {l : Launch} {D : va_G} {cy : Nat → ClassId} {L : List Nat} {κ ln : Nat → Nat} {R : Nat → Nat → Option Nat} {I : Nat → Nat → Int32} {J : Nat → Nat → Int64} {ow : Nat → Nat × Nat} (W9 : ∀ a ∈ L, Shp L κ ln R ow a) {x : Nat} (hLx : x ∈ L) (hkx : κ x = 12) (a0 : Int32) (a1 : Int32) (hU : Iw L κ R ow I) : CtI l yX12_person cX12_person 5 (some .int) { frames := 2, cells := 0, slots := 0, locals := 45 } D cy L κ ln R I J [.ref x, .int a0, .int a1] (fun r I2 J2 => Iw L κ R ow I2 ∧ Fq L κ ow [1200] I I2 ∧ Fq L κ ow [] J J2 ∧ Rg (-2147483648) 2147483647 r) := by
  refine CtI.of (by decide +kernel) (Nat.le_of_ble_eq_true rfl) ?_
  intro p e s m below meth c B K
  have C := B.1
  have hF : Fq L κ ow [1200] I I := fq_rf
  have hG : Fq L κ ow [] J J := fq_rf
  obtain ⟨b_1, hb_1, hb_1L, hb_1k, hb_1n, hb_1o⟩ := shp_a (W9 x hLx) hkx 14 14 389 rfl (by decide)
  refine g_lo (is := [0, 1, 2]) (lo2 := [(0, .ref x), (1, .int a0), (2, .int a1)]) rfl ?_
  have l_164 : ∀ (n_164 : Nat) (I_2 : Nat → Nat → Int32) (J_3 : Nat → Nat → Int64) (hU_4 : Iw L κ R ow I_2) (hF_5 : Fq L κ ow [1200] I I_2) (hG_6 : Fq L κ ow [] J J_3) (r_7 : Rg 0 6 a0) (r_8 : Rg 8 8 a1) (v_9 : Int32) (rv_9 : Rg 0 127 v_9) (v_10 : Int32) (rv_10 : Rg 0 7 v_10) (q_11 : I_2 x 0 = 0) (hm_12 : 7 < (v_10 : Int32).toInt + (n_164 : Int)), WG p l e { frames := 2, cells := 0, slots := 0, locals := 45 } s m ([.ref x, .int a0, .int a1] : List Value).toArray below meth c 5 0 0 (MQ below (Qi_ D cy L κ ln R (fun r I2 J2 => Iw L κ R ow I2 ∧ Fq L κ ow [1200] I I2 ∧ Fq L κ ow [] J J2 ∧ Rg (-2147483648) 2147483647 r)) ([.ref x, .int a0, .int a1] : List Value).toArray s 0 0 (Al_ L)) D cy (Al_ L) s.heap L κ ln R I_2 J_3 164 [(0, .ref x), (1, .int a0), (2, .int a1), (3, .int v_9), (4, .int v_10)] [] := by
    intro n_164
    induction n_164 with
    | zero =>
      intro I_2 J_3 hU_4 hF_5 hG_6 r_7 r_8 v_9 rv_9 v_10 rv_10 q_11 hm_12
      exact ms_0 rv_10 hm_12
    | succ n_164 ih_164 =>
      intro I_2 J_3 hU_4 hF_5 hG_6 r_7 r_8 v_9 rv_9 v_10 rv_10 q_11 hm_12
      have j_196 : ∀ (I_13 : Nat → Nat → Int32) (J_14 : Nat → Nat → Int64) (hU_15 : Iw L κ R ow I_13) (hF_16 : Fq L κ ow [1200] I I_13) (hG_17 : Fq L κ ow [] J J_14) (r_18 : Rg 0 6 a0) (r_19 : Rg 8 8 a1) (v_20 : Int32) (rv_20 : Rg 0 127 v_20) (v_21 : Int32) (rv_21 : Rg 0 6 v_21) (q_22 : I_13 x 0 = 0) (hm_23 : 7 < (v_21 : Int32).toInt + ((n_164 + 1 : Nat) : Int)), WG p l e { frames := 2, cells := 0, slots := 0, locals := 45 } s m ([.ref x, .int a0, .int a1] : List Value).toArray below meth c 5 0 0 (MQ below (Qi_ D cy L κ ln R (fun r I2 J2 => Iw L κ R ow I2 ∧ Fq L κ ow [1200] I I2 ∧ Fq L κ ow [] J J2 ∧ Rg (-2147483648) 2147483647 r)) ([.ref x, .int a0, .int a1] : List Value).toArray s 0 0 (Al_ L)) D cy (Al_ L) s.heap L κ ln R I_13 J_14 196 [(0, .ref x), (1, .int a0), (2, .int a1), (3, .int v_20), (4, .int v_21)] [] := by
        intro I_13 J_14 hU_15 hF_16 hG_17 r_18 r_19 v_20 rv_20 v_21 rv_21 q_22 hm_23
        obtain ⟨x_24, hx_24, rx_24, tx_24⟩ := ex_add (y := 1) 1 7 rv_21 rc_1 (by decide) (by decide) (by decide) (by decide)
        refine g_iinc C dX12_person_196 (k := 4) (v := x_24) rfl hx_24 (by decide) (lo2 := [(4, .int x_24), (0, .ref x), (1, .int a0), (2, .int a1), (3, .int v_20)]) rfl ?_
        refine g_goto C (tgt := 164) dX12_person_199 (by decide) ?_
        refine g_lo (is := [1, 2, 3, 4, 0]) (lo2 := [(0, .ref x), (1, .int a0), (2, .int a1), (3, .int v_20), (4, .int x_24)]) rfl ?_
        exact ih_164 I_13 J_14 hU_15 hF_16 hG_17 (r_18) (r_19) v_20 (rv_20) x_24 (rg_w rx_24 (by decide) (by decide)) q_22 (ms_1 hm_23 (ti_k tx_24 rc_1) (by decide))
      refine g_iload C 4 dX12_person_164 rfl ?_
      refine g_aload_n C 0 dX12_person_166 rfl rfl ?_
      refine g_getR C K hLx hkx f_12_13 hb_1 dX12_person_167 ?_
      refine g_iconst C (v := 0) dX12_person_170 (by decide) ?_
      obtain ⟨x_25, hx_25, rx_25⟩ := ex_getw (I := I_2) (a := b_1) (j := 0) (lo := 0) (hi := 7) hU_4.1 hb_1L (ro_a hb_1k (by decide) hb_1o hkx rfl) (by decide)
      refine h_iald C K hb_1L hb_1k (v := x_25) (0) (by decide) (by decide) (by rw [hb_1n]; decide) hx_25 dX12_person_171 ?_
      refine g_icmp_ge C (tgt := 202) dX12_person_172 (by decide) (fun h_26 => ?_) (fun h_26 => ?_)
      · skip
        refine g_iload_n C 3 dX12_person_202 rfl rfl ?_
        exact g_zret (ty := .int) (r := v_9) B K rfl (rfl) ⟨hU_4, hF_5, hG_6, rg_all _⟩ dX12_person_203
      · skip
        have r_27 := lt_l (hi := 6) (nle h_26) rv_10 rx_25 (by decide)
        have r_28 := lt_r (lo := 1) (nle h_26) rv_10 rx_25 (by decide)
        refine g_aload_n C 0 dX12_person_175 rfl rfl ?_
        refine g_getR C K hLx hkx f_12_13 hb_1 dX12_person_176 ?_
        refine g_bipush C (v := 11) dX12_person_179 (by decide) ?_
        refine g_iload C 4 dX12_person_181 rfl ?_
        obtain ⟨x_29, hx_29, rx_29, tx_29⟩ := ex_add 11 17 rc_11 r_27 (by decide) (by decide) (by decide) (by decide)
        refine g_iadd C (v := x_29) dX12_person_183 hx_29 ?_
        obtain ⟨x_30, hx_30, rx_30⟩ := ex_any (z0 := I_2 b_1 (x_29.toNatClampNeg))
        refine h_iald C K hb_1L hb_1k (v := x_30) (x_29.toNatClampNeg) (rfl) (ix_0 rx_29 (by decide)) (ix_lt rx_29 (by decide) hb_1n (by decide)) hx_30 dX12_person_184 ?_
        refine g_iload_n C 1 dX12_person_185 rfl rfl ?_
        refine g_icmp_ne C (tgt := 196) dX12_person_186 (by decide) (fun h_31 => ?_) (fun h_31 => ?_)
        · skip
          refine g_lo (is := [0, 1, 2, 3, 4]) (lo2 := [(0, .ref x), (1, .int a0), (2, .int a1), (3, .int v_9), (4, .int v_10)]) rfl ?_
          exact j_196 I_2 J_3 hU_4 hF_5 hG_6 (r_7) (r_8) v_9 (rv_9) v_10 (r_27) q_11 hm_12
        · skip
          have r_32 := (⟨(eq_rg (h_31) r_7).1, (eq_rg (h_31) r_7).2⟩ : Rg 0 6 x_30)
          refine g_iload_n C 3 dX12_person_189 rfl rfl ?_
          refine g_iconst C (v := 1) dX12_person_190 (by decide) ?_
          refine g_iload C 4 dX12_person_191 rfl ?_
          obtain ⟨x_33, hx_33, rx_33⟩ := ex_shl (x := 1) (y := v_10) 6 64 rfl (r_27) (by decide)
          refine g_ishl C (v := x_33) dX12_person_193 hx_33 ?_
          obtain ⟨x_34, hx_34, rx_34⟩ := ex_or 7 (x := v_9) (y := x_33) (b := 127) (c := 64) (rv_9) (rg_w rx_33 (by decide) (by decide)) (by decide) (by decide) (by decide) 127 (by decide)
          refine g_ior C (v := x_34) dX12_person_194 hx_34 ?_
          refine g_istore_n C dX12_person_195 rfl (by decide) (lo2 := [(3, .int x_34), (0, .ref x), (1, .int a0), (2, .int a1), (4, .int v_10)]) rfl ?_
          refine g_lo (is := [1, 2, 3, 0, 4]) (lo2 := [(0, .ref x), (1, .int a0), (2, .int a1), (3, .int x_34), (4, .int v_10)]) rfl ?_
          exact j_196 I_2 J_3 hU_4 hF_5 hG_6 (r_7) (r_8) x_34 (rx_34) v_10 (r_27) q_11 hm_12
  refine g_aload_n C 0 dX12_person_0 rfl rfl ?_
  refine g_iconst C (v := 0) dX12_person_1 (by decide) ?_
  refine h_putI C K hLx hkx f_12_82 p_12_0 dX12_person_2 (fun I_35 hI_35 => ?_)
  have hU_36 := iw_put W9 hU hI_35 (ro_o hkx (by decide)) (lo := (-2147483648)) (hi := 2147483647) (rfl) (rg_all _) rfl
  have hF_37 := fq_puto hF hI_35 hkx (by decide) (by decide)
  refine g_aload_n C 0 dX12_person_5 rfl rfl ?_
  refine g_iload_n C 1 dX12_person_6 rfl rfl ?_
  refine g_callVI C K (c_X12_isPerson W9 hLx hkx a0  hU_36) hLx hkx (by decide) rfl v_12_238 rfl ⟨rfl, rfl⟩ ⟨Nat.le_of_ble_eq_true rfl, Nat.le_of_ble_eq_true rfl⟩ (Nat.le_of_ble_eq_true rfl) ⟨Nat.le_of_ble_eq_true rfl, Nat.le_of_ble_eq_true rfl⟩ dX12_person_7 rfl (st := []) (fun x_38 I_39 J_40 h_41 => ?_)
  obtain ⟨rfl, rfl, rx_38, ex_38⟩ := h_41
  refine g_if_ne C (tgt := 18) dX12_person_10 (by decide) (fun h_42 => ?_) (fun h_42 => ?_)
  · skip
    have n_43 : ¬ x_38 = 0 := h_42
    have r_44 := ne_lo (lo := 1) n_43 rx_38 rc_0 rfl (by decide)
    have r_45 := rg_i (rg_all a0) ((ex_38) n_43) (lo := 0) (hi := 6) (by decide) (by decide)
    refine g_iconst C (v := 0) dX12_person_18 (by decide) ?_
    refine g_istore_n C dX12_person_19 rfl (by decide) (lo2 := [(3, .int 0), (0, .ref x), (1, .int a0), (2, .int a1)]) rfl ?_
    refine g_iload_n C 3 dX12_person_20 rfl rfl ?_
    by_cases c_46 : a1.toInt = 0
    · skip
      have r_47 := rg_of (a := 0) (b := 0) 0 c_46 (by decide) (by decide)
      refine g_tableIn C (tgt := 72) dX12_person_21 (by omega) (by omega) (off := 51) (by rw [c_46]; rfl) (by decide) ?_
      refine g_aload_n C 1 dX12_person_72 rfl rfl ?_
      refine g_getR C K hLx hkx f_12_13 hb_1 dX12_person_73 ?_
      refine g_iconst C (v := 4) dX12_person_76 (by decide) ?_
      refine g_iload_n C 2 dX12_person_77 rfl rfl ?_
      obtain ⟨x_48, hx_48, rx_48, tx_48⟩ := ex_add 4 10 rc_4 r_45 (by decide) (by decide) (by decide) (by decide)
      refine g_iadd C (v := x_48) dX12_person_78 hx_48 ?_
      obtain ⟨x_49, hx_49, rx_49⟩ := ex_getw (I := I_35) (a := b_1) (j := x_48.toNatClampNeg) (lo := 0) (hi := 20) hU_36.1 hb_1L (ro_a hb_1k (by decide) hb_1o hkx rfl) (bn_834.trans (zq_4 (ix_k (lo := 4) (hi := 10) rx_48 (by decide) (by decide) (by decide))))
      refine h_iald C K hb_1L hb_1k (v := x_49) (x_48.toNatClampNeg) (rfl) (ix_0 rx_48 (by decide)) (ix_lt rx_48 (by decide) hb_1n (by decide)) hx_49 dX12_person_79 ?_
      exact g_zret (ty := .int) (r := x_49) B K rfl (rfl) ⟨hU_36, hF_37, hG, rg_all _⟩ dX12_person_80
    by_cases c_50 : a1.toInt = 1
    · skip
      have r_51 := rg_of (a := 1) (b := 1) 1 c_50 (by decide) (by decide)
      refine g_tableIn C (tgt := 81) dX12_person_21 (by omega) (by omega) (off := 60) (by rw [c_50]; rfl) (by decide) ?_
      refine g_aload_n C 1 dX12_person_81 rfl rfl ?_
      refine g_getR C K hLx hkx f_12_13 hb_1 dX12_person_82 ?_
      refine g_bipush C (v := 11) dX12_person_85 (by decide) ?_
      refine g_iload_n C 2 dX12_person_87 rfl rfl ?_
      obtain ⟨x_52, hx_52, rx_52, tx_52⟩ := ex_add 11 17 rc_11 r_45 (by decide) (by decide) (by decide) (by decide)
      refine g_iadd C (v := x_52) dX12_person_88 hx_52 ?_
      obtain ⟨x_53, hx_53, rx_53⟩ := ex_any (z0 := I_35 b_1 (x_52.toNatClampNeg))
      refine h_iald C K hb_1L hb_1k (v := x_53) (x_52.toNatClampNeg) (rfl) (ix_0 rx_52 (by decide)) (ix_lt rx_52 (by decide) hb_1n (by decide)) hx_53 dX12_person_89 ?_
      exact g_zret (ty := .int) (r := x_53) B K rfl (rfl) ⟨hU_36, hF_37, hG, rx_53⟩ dX12_person_90
    by_cases c_54 : a1.toInt = 2
    · skip
      have r_55 := rg_of (a := 2) (b := 2) 2 c_54 (by decide) (by decide)
      refine g_tableIn C (tgt := 91) dX12_person_21 (by omega) (by omega) (off := 70) (by rw [c_54]; rfl) (by decide) ?_
      refine g_aload_n C 1 dX12_person_91 rfl rfl ?_
      refine g_iload_n C 2 dX12_person_92 rfl rfl ?_
      refine g_callVI C K (c_X12_isDead W9 hLx hkx a0 (r_45) hU_36) hLx hkx (by decide) rfl v_12_244 rfl ⟨rfl, rfl⟩ ⟨Nat.le_of_ble_eq_true rfl, Nat.le_of_ble_eq_true rfl⟩ (Nat.le_of_ble_eq_true rfl) ⟨Nat.le_of_ble_eq_true rfl, Nat.le_of_ble_eq_true rfl⟩ dX12_person_93 rfl (st := []) (fun x_56 I_57 J_58 h_59 => ?_)
      obtain ⟨rfl, rfl, rx_56⟩ := h_59
      refine g_if_eq C (tgt := 103) dX12_person_96 (by decide) (fun h_60 => ?_) (fun h_60 => ?_)
      · skip
        have r_61 := (⟨(rx_56).1, (eq_rg (h_60) rc_0).2⟩ : Rg 0 0 x_56)
        refine g_iconst C (v := 0) dX12_person_103 (by decide) ?_
        exact g_zret (ty := .int) (r := 0) B K rfl (rfl) ⟨hU_36, hF_37, hG, rg_all _⟩ dX12_person_104
      · skip
        have n_62 : ¬ x_56 = 0 := h_60
        have r_63 := ne_lo (lo := 1) n_62 rx_56 rc_0 rfl (by decide)
        refine g_iconst C (v := 1) dX12_person_99 (by decide) ?_
        refine g_goto C (tgt := 104) dX12_person_100 (by decide) ?_
        exact g_zret (ty := .int) (r := 1) B K rfl (rfl) ⟨hU_36, hF_37, hG, rg_all _⟩ dX12_person_104
    by_cases c_64 : a1.toInt = 3
    · skip
      have r_65 := rg_of (a := 3) (b := 3) 3 c_64 (by decide) (by decide)
      refine g_tableIn C (tgt := 105) dX12_person_21 (by omega) (by omega) (off := 84) (by rw [c_64]; rfl) (by decide) ?_
      refine g_aload_n C 1 dX12_person_105 rfl rfl ?_
      refine g_getR C K hLx hkx f_12_13 hb_1 dX12_person_106 ?_
      refine g_bipush C (v := 74) dX12_person_109 (by decide) ?_
      obtain ⟨x_66, hx_66, rx_66⟩ := ex_any (z0 := I_35 b_1 (74))
      refine h_iald C K hb_1L hb_1k (v := x_66) (74) (by decide) (by decide) (by rw [hb_1n]; decide) hx_66 dX12_person_111 ?_
      refine g_iload_n C 2 dX12_person_112 rfl rfl ?_
      refine g_callSI C K (c_X12_has W9 x_66 a0  hU_36) s_12_231 rfl ⟨rfl, rfl⟩ ⟨Nat.le_of_ble_eq_true rfl, Nat.le_of_ble_eq_true rfl⟩ (Nat.le_of_ble_eq_true rfl) ⟨Nat.le_of_ble_eq_true rfl, Nat.le_of_ble_eq_true rfl⟩ dX12_person_113 rfl (st := []) (fun x_67 I_68 J_69 h_70 => ?_)
      obtain ⟨rfl, rfl, rx_67, ex_67⟩ := h_70
      refine g_if_eq C (tgt := 123) dX12_person_116 (by decide) (fun h_71 => ?_) (fun h_71 => ?_)
      · skip
        have r_72 := (⟨(rx_67).1, (eq_rg (h_71) rc_0).2⟩ : Rg 0 0 x_67)
        refine g_iconst C (v := 0) dX12_person_123 (by decide) ?_
        exact g_zret (ty := .int) (r := 0) B K rfl (rfl) ⟨hU_36, hF_37, hG, rg_all _⟩ dX12_person_124
      · skip
        have n_73 : ¬ x_67 = 0 := h_71
        have r_74 := ne_lo (lo := 1) n_73 rx_67 rc_0 rfl (by decide)
        refine g_iconst C (v := 1) dX12_person_119 (by decide) ?_
        refine g_goto C (tgt := 124) dX12_person_120 (by decide) ?_
        exact g_zret (ty := .int) (r := 1) B K rfl (rfl) ⟨hU_36, hF_37, hG, rg_all _⟩ dX12_person_124
    by_cases c_75 : a1.toInt = 4
    · skip
      have r_76 := rg_of (a := 4) (b := 4) 4 c_75 (by decide) (by decide)
      refine g_tableIn C (tgt := 125) dX12_person_21 (by omega) (by omega) (off := 104) (by rw [c_75]; rfl) (by decide) ?_
      refine g_aload_n C 1 dX12_person_125 rfl rfl ?_
      refine g_getR C K hLx hkx f_12_13 hb_1 dX12_person_126 ?_
      refine g_bipush C (v := 84) dX12_person_129 (by decide) ?_
      refine g_iload_n C 2 dX12_person_131 rfl rfl ?_
      obtain ⟨x_77, hx_77, rx_77, tx_77⟩ := ex_add 84 90 rc_84 r_45 (by decide) (by decide) (by decide) (by decide)
      refine g_iadd C (v := x_77) dX12_person_132 hx_77 ?_
      obtain ⟨x_78, hx_78, rx_78⟩ := ex_any (z0 := I_35 b_1 (x_77.toNatClampNeg))
      refine h_iald C K hb_1L hb_1k (v := x_78) (x_77.toNatClampNeg) (rfl) (ix_0 rx_77 (by decide)) (ix_lt rx_77 (by decide) hb_1n (by decide)) hx_78 dX12_person_133 ?_
      exact g_zret (ty := .int) (r := x_78) B K rfl (rfl) ⟨hU_36, hF_37, hG, rx_78⟩ dX12_person_134
    by_cases c_79 : a1.toInt = 5
    · skip
      have r_80 := rg_of (a := 5) (b := 5) 5 c_79 (by decide) (by decide)
      refine g_tableIn C (tgt := 135) dX12_person_21 (by omega) (by omega) (off := 114) (by rw [c_79]; rfl) (by decide) ?_
      refine g_aload_n C 1 dX12_person_135 rfl rfl ?_
      refine g_getR C K hLx hkx f_12_13 hb_1 dX12_person_136 ?_
      refine g_bipush C (v := 91) dX12_person_139 (by decide) ?_
      refine g_iload_n C 2 dX12_person_141 rfl rfl ?_
      obtain ⟨x_81, hx_81, rx_81, tx_81⟩ := ex_add 91 97 rc_91 r_45 (by decide) (by decide) (by decide) (by decide)
      refine g_iadd C (v := x_81) dX12_person_142 hx_81 ?_
      obtain ⟨x_82, hx_82, rx_82⟩ := ex_getw (I := I_35) (a := b_1) (j := x_81.toNatClampNeg) (lo := 0) (hi := 20) hU_36.1 hb_1L (ro_a hb_1k (by decide) hb_1o hkx rfl) (bn_834.trans (zq_91 (ix_k (lo := 91) (hi := 97) rx_81 (by decide) (by decide) (by decide))))
      refine h_iald C K hb_1L hb_1k (v := x_82) (x_81.toNatClampNeg) (rfl) (ix_0 rx_81 (by decide)) (ix_lt rx_81 (by decide) hb_1n (by decide)) hx_82 dX12_person_143 ?_
      exact g_zret (ty := .int) (r := x_82) B K rfl (rfl) ⟨hU_36, hF_37, hG, rg_all _⟩ dX12_person_144
    by_cases c_83 : a1.toInt = 6
    · skip
      have r_84 := rg_of (a := 6) (b := 6) 6 c_83 (by decide) (by decide)
      refine g_tableIn C (tgt := 145) dX12_person_21 (by omega) (by omega) (off := 124) (by rw [c_83]; rfl) (by decide) ?_
      refine g_aload_n C 1 dX12_person_145 rfl rfl ?_
      refine g_getR C K hLx hkx f_12_13 hb_1 dX12_person_146 ?_
      refine g_bipush C (v := 98) dX12_person_149 (by decide) ?_
      refine g_iload_n C 2 dX12_person_151 rfl rfl ?_
      obtain ⟨x_85, hx_85, rx_85, tx_85⟩ := ex_add 98 104 rc_98 r_45 (by decide) (by decide) (by decide) (by decide)
      refine g_iadd C (v := x_85) dX12_person_152 hx_85 ?_
      obtain ⟨x_86, hx_86, rx_86⟩ := ex_any (z0 := I_35 b_1 (x_85.toNatClampNeg))
      refine h_iald C K hb_1L hb_1k (v := x_86) (x_85.toNatClampNeg) (rfl) (ix_0 rx_85 (by decide)) (ix_lt rx_85 (by decide) hb_1n (by decide)) hx_86 dX12_person_153 ?_
      exact g_zret (ty := .int) (r := x_86) B K rfl (rfl) ⟨hU_36, hF_37, hG, rx_86⟩ dX12_person_154
    by_cases c_87 : a1.toInt = 7
    · skip
      have r_88 := rg_of (a := 7) (b := 7) 7 c_87 (by decide) (by decide)
      refine g_tableIn C (tgt := 155) dX12_person_21 (by omega) (by omega) (off := 134) (by rw [c_87]; rfl) (by decide) ?_
      refine g_aload_n C 1 dX12_person_155 rfl rfl ?_
      refine g_iload_n C 2 dX12_person_156 rfl rfl ?_
      refine g_callVI C K (c_X12_plateOf W9 hLx hkx a0 (r_45) hU_36) hLx hkx (by decide) rfl v_12_247 rfl ⟨rfl, rfl⟩ ⟨Nat.le_of_ble_eq_true rfl, Nat.le_of_ble_eq_true rfl⟩ (Nat.le_of_ble_eq_true rfl) ⟨Nat.le_of_ble_eq_true rfl, Nat.le_of_ble_eq_true rfl⟩ dX12_person_157 rfl (st := []) (fun x_89 I_90 J_91 h_92 => ?_)
      obtain ⟨rfl, rfl, rx_89⟩ := h_92
      exact g_zret (ty := .int) (r := x_89) B K rfl (rfl) ⟨hU_36, hF_37, hG, rg_all _⟩ dX12_person_160
    by_cases c_93 : a1.toInt = 8
    · skip
      have r_94 := rg_of (a := 8) (b := 8) 8 c_93 (by decide) (by decide)
      refine g_tableIn C (tgt := 161) dX12_person_21 (by omega) (by omega) (off := 140) (by rw [c_93]; rfl) (by decide) ?_
      refine g_iconst C (v := 0) dX12_person_161 (by decide) ?_
      refine g_istore C dX12_person_162 (by decide) (lo2 := [(4, .int 0), (3, .int 0), (0, .ref x), (1, .int a0), (2, .int a1)]) rfl ?_
      refine g_lo (is := [2, 3, 4, 1, 0]) (lo2 := [(0, .ref x), (1, .int a0), (2, .int a1), (3, .int 0), (4, .int 0)]) rfl ?_
      exact l_164 8 I_35 J hU_36 hF_37 hG (r_45) (r_94) 0 (rg_w rc_0 (by decide) (by decide)) 0 (rg_w rc_0 (by decide) (by decide)) (kp_s hI_35) (ms_s (a := 0) (b := 7) (N := 8) (rg_w rc_0 (by decide) (by decide)) (by decide))
    have n_96 : ¬ a1 = 0 := (fun q => c_46 (by rw [q]; decide))
    have n_97 : ¬ a1 = 1 := (fun q => c_50 (by rw [q]; decide))
    have n_98 : ¬ a1 = 2 := (fun q => c_54 (by rw [q]; decide))
    have n_99 : ¬ a1 = 3 := (fun q => c_64 (by rw [q]; decide))
    have n_100 : ¬ a1 = 4 := (fun q => c_75 (by rw [q]; decide))
    have n_101 : ¬ a1 = 5 := (fun q => c_79 (by rw [q]; decide))
    have n_102 : ¬ a1 = 6 := (fun q => c_83 (by rw [q]; decide))
    have n_103 : ¬ a1 = 7 := (fun q => c_87 (by rw [q]; decide))
    have n_104 : ¬ a1 = 8 := (fun q => c_93 (by rw [q]; decide))
    obtain ⟨q_951, q_952⟩ := id ((rg_all a1))
    refine g_tableOut C (tgt := 204) dX12_person_21 (by omega) (by decide) ?_
    refine g_aload_n C 1 dX12_person_204 rfl rfl ?_
    refine g_callVI C K (c_X12_refuse W9 hLx hkx   hU_36) hLx hkx (by decide) rfl v_12_241 rfl ⟨rfl, rfl⟩ ⟨Nat.le_of_ble_eq_true rfl, Nat.le_of_ble_eq_true rfl⟩ (Nat.le_of_ble_eq_true rfl) ⟨Nat.le_of_ble_eq_true rfl, Nat.le_of_ble_eq_true rfl⟩ dX12_person_205 rfl (st := []) (fun x_105 I_106 J_107 h_108 => ?_)
    obtain ⟨hUI_106, hFI_106, hGJ_107, rx_105⟩ := h_108
    have hF_109 := fq_tr hF_37 hFI_106 (by decide)
    have hG_110 := fq_tr hG hGJ_107 (by decide)
    exact g_zret (ty := .int) (r := x_105) B K rfl (rfl) ⟨hUI_106, hF_109, hG_110, rg_all _⟩ dX12_person_208
  · skip
    have r_111 := (⟨(rx_38).1, (eq_rg (h_42) rc_0).2⟩ : Rg 0 0 x_38)
    refine g_aload_n C 0 dX12_person_13 rfl rfl ?_
    refine g_callVI C K (c_X12_refuse W9 hLx hkx   hU_36) hLx hkx (by decide) rfl v_12_241 rfl ⟨rfl, rfl⟩ ⟨Nat.le_of_ble_eq_true rfl, Nat.le_of_ble_eq_true rfl⟩ (Nat.le_of_ble_eq_true rfl) ⟨Nat.le_of_ble_eq_true rfl, Nat.le_of_ble_eq_true rfl⟩ dX12_person_14 rfl (st := []) (fun x_112 I_113 J_114 h_115 => ?_)
    obtain ⟨hUI_113, hFI_113, hGJ_114, rx_112⟩ := h_115
    have hF_116 := fq_tr hF_37 hFI_113 (by decide)
    have hG_117 := fq_tr hG hGJ_114 (by decide)
    exact g_zret (ty := .int) (r := x_112) B K rfl (rfl) ⟨hUI_113, hF_116, hG_117, rg_all _⟩ dX12_person_17
set_option maxRecDepth 100000 in
set_option maxHeartbeats 8000000 in
theorem c_X12_isDish {l : Launch} {D : va_G} {cy : Nat → ClassId} {L : List Nat} {κ ln : Nat → Nat} {R : Nat → Nat → Option Nat} {I : Nat → Nat → Int32} {J : Nat → Nat → Int64} {ow : Nat → Nat × Nat} (W9 : ∀ a ∈ L, Shp L κ ln R ow a) {x : Nat} (hLx : x ∈ L) (hkx : κ x = 12) (a0 : Int32) (hU : Iw L κ R ow I) : CtI l yX12_isDish cX12_isDish 2 (some .boolean) { frames := 1, cells := 0, slots := 0, locals := 22 } D cy L κ ln R I J [.ref x, .int a0] (fun r I2 J2 => I = I2 ∧ J = J2 ∧ Rg 0 1 r ∧ (¬ r = 0 → Rg 0 5 a0)) := by
  refine CtI.of (by decide +kernel) (Nat.le_of_ble_eq_true rfl) ?_
  intro p e s m below meth c B K
  have C := B.1
  obtain ⟨b_1, hb_1, hb_1L, hb_1k, hb_1n, hb_1o⟩ := shp_a (W9 x hLx) hkx 14 14 389 rfl (by decide)
  refine g_lo (is := [0, 1]) (lo2 := [(0, .ref x), (1, .int a0)]) rfl ?_
  refine g_iload_n C 1 dX12_isDish_0 rfl rfl ?_
  refine g_iconst C (v := 0) dX12_isDish_1 (by decide) ?_
  refine g_aload_n C 0 dX12_isDish_2 rfl rfl ?_
  refine g_getR C K hLx hkx f_12_13 hb_1 dX12_isDish_3 ?_
  refine g_iconst C (v := 1) dX12_isDish_6 (by decide) ?_
  obtain ⟨x_2, hx_2, rx_2⟩ := ex_getw (I := I) (a := b_1) (j := 1) (lo := 0) (hi := 6) hU.1 hb_1L (ro_a hb_1k (by decide) hb_1o hkx rfl) (by decide)
  refine h_iald C K hb_1L hb_1k (v := x_2) (1) (by decide) (by decide) (by rw [hb_1n]; decide) hx_2 dX12_isDish_7 ?_
  refine g_iconst C (v := 1) dX12_isDish_8 (by decide) ?_
  obtain ⟨x_3, hx_3, rx_3, tx_3⟩ := ex_sub (-1) 5 rx_2 rc_1 (by decide) (by decide) (by decide) (by decide)
  refine g_isub C (v := x_3) dX12_isDish_9 hx_3 ?_
  refine g_callSI C K (c_X12_isIn W9 a0 0 x_3 (rg_w rc_0 (by decide) (by decide)) (rg_w rx_3 (by decide) (by decide)) hU) s_12_149 rfl ⟨rfl, rfl⟩ ⟨Nat.le_of_ble_eq_true rfl, Nat.le_of_ble_eq_true rfl⟩ (Nat.le_of_ble_eq_true rfl) ⟨Nat.le_of_ble_eq_true rfl, Nat.le_of_ble_eq_true rfl⟩ dX12_isDish_10 rfl (st := []) (fun x_4 I_5 J_6 h_7 => ?_)
  obtain ⟨rfl, rfl, rx_4, fx_4, ex_4⟩ := h_7
  exact g_zret (ty := .boolean) (r := x_4) B K rfl (nar_z (rx_4)) ⟨rfl, rfl, rx_4, (fun hq => by have n_8 : ¬ x_4 = 0 := hq; have r_9 := ne_lo (lo := 1) n_8 rx_4 rc_0 rfl (by decide); have r_10 := le_r (((ex_4.1) n_8)) rc_0 (rg_all a0); have r_11 := le_l (((ex_4.2) n_8)) r_10 rx_3; have r_12 := le_r (((ex_4.2) n_8)) r_10 rx_3; have r_13 := rg_der (k := (-1)) (lo := 1) (hi := 6) (ti_s tx_3 rc_1 (by decide)) r_12 rx_2 (by decide) (by decide); exact r_11)⟩ dX12_isDish_13
set_option maxRecDepth 100000 in
set_option maxHeartbeats 8000000 in
theorem c_X12_plate {l : Launch} {D : va_G} {cy : Nat → ClassId} {L : List Nat} {κ ln : Nat → Nat} {R : Nat → Nat → Option Nat} {I : Nat → Nat → Int32} {J : Nat → Nat → Int64} {ow : Nat → Nat × Nat} (W9 : ∀ a ∈ L, Shp L κ ln R ow a) {x : Nat} (hLx : x ∈ L) (hkx : κ x = 12) (a0 : Int32) (a1 : Int32) (hU : Iw L κ R ow I) : CtI l yX12_plate cX12_plate 3 (some .int) { frames := 2, cells := 0, slots := 0, locals := 43 } D cy L κ ln R I J [.ref x, .int a0, .int a1] (fun r I2 J2 => Iw L κ R ow I2 ∧ Fq L κ ow [1200] I I2 ∧ Fq L κ ow [] J J2 ∧ Rg (-1) 379 r) := by
  refine CtI.of (by decide +kernel) (Nat.le_of_ble_eq_true rfl) ?_
  intro p e s m below meth c B K
  have C := B.1
  have hF : Fq L κ ow [1200] I I := fq_rf
  have hG : Fq L κ ow [] J J := fq_rf
  refine g_lo (is := [0, 1, 2]) (lo2 := [(0, .ref x), (1, .int a0), (2, .int a1)]) rfl ?_
  refine g_aload_n C 0 dX12_plate_0 rfl rfl ?_
  refine g_iconst C (v := 0) dX12_plate_1 (by decide) ?_
  refine h_putI C K hLx hkx f_12_82 p_12_0 dX12_plate_2 (fun I_1 hI_1 => ?_)
  have hU_2 := iw_put W9 hU hI_1 (ro_o hkx (by decide)) (lo := (-2147483648)) (hi := 2147483647) (rfl) (rg_all _) rfl
  have hF_3 := fq_puto hF hI_1 hkx (by decide) (by decide)
  refine g_aload_n C 0 dX12_plate_5 rfl rfl ?_
  refine g_iload_n C 1 dX12_plate_6 rfl rfl ?_
  refine g_callVI C K (c_X12_isPerson W9 hLx hkx a0  hU_2) hLx hkx (by decide) rfl v_12_238 rfl ⟨rfl, rfl⟩ ⟨Nat.le_of_ble_eq_true rfl, Nat.le_of_ble_eq_true rfl⟩ (Nat.le_of_ble_eq_true rfl) ⟨Nat.le_of_ble_eq_true rfl, Nat.le_of_ble_eq_true rfl⟩ dX12_plate_7 rfl (st := []) (fun x_4 I_5 J_6 h_7 => ?_)
  obtain ⟨rfl, rfl, rx_4, ex_4⟩ := h_7
  refine g_if_eq C (tgt := 30) dX12_plate_10 (by decide) (fun h_8 => ?_) (fun h_8 => ?_)
  · skip
    have r_9 := (⟨(rx_4).1, (eq_rg (h_8) rc_0).2⟩ : Rg 0 0 x_4)
    refine g_iconst C (v := (-1)) dX12_plate_30 (by decide) ?_
    exact g_zret (ty := .int) (r := (-1)) B K rfl (rfl) ⟨hU_2, hF_3, hG, rg_w rc_m1 (by decide) (by decide)⟩ dX12_plate_31
  · skip
    have n_10 : ¬ x_4 = 0 := h_8
    have r_11 := ne_lo (lo := 1) n_10 rx_4 rc_0 rfl (by decide)
    have r_12 := rg_i (rg_all a0) ((ex_4) n_10) (lo := 0) (hi := 6) (by decide) (by decide)
    refine g_aload_n C 0 dX12_plate_13 rfl rfl ?_
    refine g_iload_n C 2 dX12_plate_14 rfl rfl ?_
    refine g_callVI C K (c_X12_isDish W9 hLx hkx a1  hU_2) hLx hkx (by decide) rfl v_12_250 rfl ⟨rfl, rfl⟩ ⟨Nat.le_of_ble_eq_true rfl, Nat.le_of_ble_eq_true rfl⟩ (Nat.le_of_ble_eq_true rfl) ⟨Nat.le_of_ble_eq_true rfl, Nat.le_of_ble_eq_true rfl⟩ dX12_plate_15 rfl (st := []) (fun x_13 I_14 J_15 h_16 => ?_)
    obtain ⟨rfl, rfl, rx_13, ex_13⟩ := h_16
    refine g_if_eq C (tgt := 30) dX12_plate_18 (by decide) (fun h_17 => ?_) (fun h_17 => ?_)
    · skip
      have r_18 := (⟨(rx_13).1, (eq_rg (h_17) rc_0).2⟩ : Rg 0 0 x_13)
      refine g_iconst C (v := (-1)) dX12_plate_30 (by decide) ?_
      exact g_zret (ty := .int) (r := (-1)) B K rfl (rfl) ⟨hU_2, hF_3, hG, rg_w rc_m1 (by decide) (by decide)⟩ dX12_plate_31
    · skip
      have n_19 : ¬ x_13 = 0 := h_17
      have r_20 := ne_lo (lo := 1) n_19 rx_13 rc_0 rfl (by decide)
      have r_21 := rg_i (rg_all a1) ((ex_13) n_19) (lo := 0) (hi := 5) (by decide) (by decide)
      refine g_aload_n C 0 dX12_plate_21 rfl rfl ?_
      refine g_iload_n C 1 dX12_plate_22 rfl rfl ?_
      refine g_iload_n C 2 dX12_plate_23 rfl rfl ?_
      refine g_callVI C K (c_X12_onPlate W9 hLx hkx a0 a1 (r_12) (r_21) hU_2) hLx hkx (by decide) rfl v_12_234 rfl ⟨rfl, rfl⟩ ⟨Nat.le_of_ble_eq_true rfl, Nat.le_of_ble_eq_true rfl⟩ (Nat.le_of_ble_eq_true rfl) ⟨Nat.le_of_ble_eq_true rfl, Nat.le_of_ble_eq_true rfl⟩ dX12_plate_24 rfl (st := []) (fun x_22 I_23 J_24 h_25 => ?_)
      obtain ⟨rfl, rfl, rx_22, ex_22⟩ := h_25
      refine g_goto C (tgt := 31) dX12_plate_27 (by decide) ?_
      exact g_zret (ty := .int) (r := x_22) B K rfl (rfl) ⟨hU_2, hF_3, hG, rg_w rx_22 (by decide) (by decide)⟩ dX12_plate_31
set_option maxRecDepth 100000 in
set_option maxHeartbeats 8000000 in
theorem c_X12_dish {l : Launch} {D : va_G} {cy : Nat → ClassId} {L : List Nat} {κ ln : Nat → Nat} {R : Nat → Nat → Option Nat} {I : Nat → Nat → Int32} {J : Nat → Nat → Int64} {ow : Nat → Nat × Nat} (W9 : ∀ a ∈ L, Shp L κ ln R ow a) {x : Nat} (hLx : x ∈ L) (hkx : κ x = 12) (a0 : Int32) (a1 : Int32) (hU : Iw L κ R ow I) : CtI l yX12_dish cX12_dish 5 (some .int) { frames := 2, cells := 0, slots := 0, locals := 43 } D cy L κ ln R I J [.ref x, .int a0, .int a1] (fun r I2 J2 => Iw L κ R ow I2 ∧ Fq L κ ow [1200] I I2 ∧ Fq L κ ow [] J J2 ∧ Rg (-2147483648) 2147483647 r) := by
  refine CtI.of (by decide +kernel) (Nat.le_of_ble_eq_true rfl) ?_
  intro p e s m below meth c B K
  have C := B.1
  have hF : Fq L κ ow [1200] I I := fq_rf
  have hG : Fq L κ ow [] J J := fq_rf
  obtain ⟨b_1, hb_1, hb_1L, hb_1k, hb_1n, hb_1o⟩ := shp_a (W9 x hLx) hkx 14 14 389 rfl (by decide)
  refine g_lo (is := [0, 1, 2]) (lo2 := [(0, .ref x), (1, .int a0), (2, .int a1)]) rfl ?_
  have l_67 : ∀ (n_67 : Nat) (I_2 : Nat → Nat → Int32) (J_3 : Nat → Nat → Int64) (hU_4 : Iw L κ R ow I_2) (hF_5 : Fq L κ ow [1200] I I_2) (hG_6 : Fq L κ ow [] J J_3) (r_7 : Rg 0 5 a0) (r_8 : Rg 2 2 a1) (v_9 : Int32) (v_10 : Int32) (rv_10 : Rg 0 7 v_10) (q_11 : I_2 x 0 = 0) (hm_12 : 7 < (v_10 : Int32).toInt + (n_67 : Int)), WG p l e { frames := 2, cells := 0, slots := 0, locals := 43 } s m ([.ref x, .int a0, .int a1] : List Value).toArray below meth c 5 0 0 (MQ below (Qi_ D cy L κ ln R (fun r I2 J2 => Iw L κ R ow I2 ∧ Fq L κ ow [1200] I I2 ∧ Fq L κ ow [] J J2 ∧ Rg (-2147483648) 2147483647 r)) ([.ref x, .int a0, .int a1] : List Value).toArray s 0 0 (Al_ L)) D cy (Al_ L) s.heap L κ ln R I_2 J_3 67 [(0, .ref x), (1, .int a0), (2, .int a1), (3, .int v_9), (4, .int v_10)] [] := by
    intro n_67
    induction n_67 with
    | zero =>
      intro I_2 J_3 hU_4 hF_5 hG_6 r_7 r_8 v_9 v_10 rv_10 q_11 hm_12
      exact ms_0 rv_10 hm_12
    | succ n_67 ih_67 =>
      intro I_2 J_3 hU_4 hF_5 hG_6 r_7 r_8 v_9 v_10 rv_10 q_11 hm_12
      refine g_iload C 4 dX12_dish_67 rfl ?_
      refine g_aload_n C 0 dX12_dish_69 rfl rfl ?_
      refine g_getR C K hLx hkx f_12_13 hb_1 dX12_dish_70 ?_
      refine g_iconst C (v := 0) dX12_dish_73 (by decide) ?_
      obtain ⟨x_13, hx_13, rx_13⟩ := ex_getw (I := I_2) (a := b_1) (j := 0) (lo := 0) (hi := 7) hU_4.1 hb_1L (ro_a hb_1k (by decide) hb_1o hkx rfl) (by decide)
      refine h_iald C K hb_1L hb_1k (v := x_13) (0) (by decide) (by decide) (by rw [hb_1n]; decide) hx_13 dX12_dish_74 ?_
      refine g_icmp_ge C (tgt := 94) dX12_dish_75 (by decide) (fun h_14 => ?_) (fun h_14 => ?_)
      · skip
        refine g_iload_n C 3 dX12_dish_94 rfl rfl ?_
        exact g_zret (ty := .int) (r := v_9) B K rfl (rfl) ⟨hU_4, hF_5, hG_6, (rg_all v_9)⟩ dX12_dish_95
      · skip
        have r_15 := lt_l (hi := 6) (nle h_14) rv_10 rx_13 (by decide)
        have r_16 := lt_r (lo := 1) (nle h_14) rv_10 rx_13 (by decide)
        refine g_iload_n C 3 dX12_dish_78 rfl rfl ?_
        refine g_aload_n C 0 dX12_dish_79 rfl rfl ?_
        refine g_iload C 4 dX12_dish_80 rfl ?_
        refine g_iload_n C 1 dX12_dish_82 rfl rfl ?_
        refine g_callVI C K (c_X12_onPlate W9 hLx hkx v_10 a0 (r_15) (r_7) hU_4) hLx hkx (by decide) rfl v_12_234 rfl ⟨rfl, rfl⟩ ⟨Nat.le_of_ble_eq_true rfl, Nat.le_of_ble_eq_true rfl⟩ (Nat.le_of_ble_eq_true rfl) ⟨Nat.le_of_ble_eq_true rfl, Nat.le_of_ble_eq_true rfl⟩ dX12_dish_83 rfl (st := [.int v_9]) (fun x_17 I_18 J_19 h_20 => ?_)
        obtain ⟨rfl, rfl, rx_17, ex_17⟩ := h_20
        obtain ⟨x_21, hx_21, rx_21⟩ := ex_any (z0 := v_9 + x_17)
        refine g_iadd C (v := x_21) dX12_dish_86 hx_21 ?_
        refine g_istore_n C dX12_dish_87 rfl (by decide) (lo2 := [(3, .int x_21), (0, .ref x), (1, .int a0), (2, .int a1), (4, .int v_10)]) rfl ?_
        obtain ⟨x_22, hx_22, rx_22, tx_22⟩ := ex_add (y := 1) 1 7 r_15 rc_1 (by decide) (by decide) (by decide) (by decide)
        refine g_iinc C dX12_dish_88 (k := 4) (v := x_22) rfl hx_22 (by decide) (lo2 := [(4, .int x_22), (3, .int x_21), (0, .ref x), (1, .int a0), (2, .int a1)]) rfl ?_
        refine g_goto C (tgt := 67) dX12_dish_91 (by decide) ?_
        refine g_lo (is := [2, 3, 4, 1, 0]) (lo2 := [(0, .ref x), (1, .int a0), (2, .int a1), (3, .int x_21), (4, .int x_22)]) rfl ?_
        exact ih_67 I_2 J_3 hU_4 hF_5 hG_6 (r_7) (r_8) x_21 x_22 (rg_w rx_22 (by decide) (by decide)) q_11 (ms_1 hm_12 (ti_k tx_22 rc_1) (by decide))
  refine g_aload_n C 0 dX12_dish_0 rfl rfl ?_
  refine g_iconst C (v := 0) dX12_dish_1 (by decide) ?_
  refine h_putI C K hLx hkx f_12_82 p_12_0 dX12_dish_2 (fun I_23 hI_23 => ?_)
  have hU_24 := iw_put W9 hU hI_23 (ro_o hkx (by decide)) (lo := (-2147483648)) (hi := 2147483647) (rfl) (rg_all _) rfl
  have hF_25 := fq_puto hF hI_23 hkx (by decide) (by decide)
  refine g_aload_n C 0 dX12_dish_5 rfl rfl ?_
  refine g_iload_n C 1 dX12_dish_6 rfl rfl ?_
  refine g_callVI C K (c_X12_isDish W9 hLx hkx a0  hU_24) hLx hkx (by decide) rfl v_12_250 rfl ⟨rfl, rfl⟩ ⟨Nat.le_of_ble_eq_true rfl, Nat.le_of_ble_eq_true rfl⟩ (Nat.le_of_ble_eq_true rfl) ⟨Nat.le_of_ble_eq_true rfl, Nat.le_of_ble_eq_true rfl⟩ dX12_dish_7 rfl (st := []) (fun x_26 I_27 J_28 h_29 => ?_)
  obtain ⟨rfl, rfl, rx_26, ex_26⟩ := h_29
  refine g_if_ne C (tgt := 15) dX12_dish_10 (by decide) (fun h_30 => ?_) (fun h_30 => ?_)
  · skip
    have n_31 : ¬ x_26 = 0 := h_30
    have r_32 := ne_lo (lo := 1) n_31 rx_26 rc_0 rfl (by decide)
    have r_33 := rg_i (rg_all a0) ((ex_26) n_31) (lo := 0) (hi := 5) (by decide) (by decide)
    refine g_iconst C (v := 0) dX12_dish_15 (by decide) ?_
    refine g_istore_n C dX12_dish_16 rfl (by decide) (lo2 := [(3, .int 0), (0, .ref x), (1, .int a0), (2, .int a1)]) rfl ?_
    refine g_iload_n C 3 dX12_dish_17 rfl rfl ?_
    by_cases c_34 : a1.toInt = 0
    · skip
      have r_35 := rg_of (a := 0) (b := 0) 0 c_34 (by decide) (by decide)
      refine g_tableIn C (tgt := 44) dX12_dish_18 (by omega) (by omega) (off := 26) (by rw [c_34]; rfl) (by decide) ?_
      refine g_aload_n C 1 dX12_dish_44 rfl rfl ?_
      refine g_getR C K hLx hkx f_12_13 hb_1 dX12_dish_45 ?_
      refine g_bipush C (v := 78) dX12_dish_48 (by decide) ?_
      refine g_iload_n C 2 dX12_dish_50 rfl rfl ?_
      obtain ⟨x_36, hx_36, rx_36, tx_36⟩ := ex_add 78 83 rc_78 r_33 (by decide) (by decide) (by decide) (by decide)
      refine g_iadd C (v := x_36) dX12_dish_51 hx_36 ?_
      obtain ⟨x_37, hx_37, rx_37⟩ := ex_getw (I := I_23) (a := b_1) (j := x_36.toNatClampNeg) (lo := 0) (hi := 379) hU_24.1 hb_1L (ro_a hb_1k (by decide) hb_1o hkx rfl) (bn_834.trans (zq_78 (ix_k (lo := 78) (hi := 83) rx_36 (by decide) (by decide) (by decide))))
      refine h_iald C K hb_1L hb_1k (v := x_37) (x_36.toNatClampNeg) (rfl) (ix_0 rx_36 (by decide)) (ix_lt rx_36 (by decide) hb_1n (by decide)) hx_37 dX12_dish_52 ?_
      exact g_zret (ty := .int) (r := x_37) B K rfl (rfl) ⟨hU_24, hF_25, hG, rg_all _⟩ dX12_dish_53
    by_cases c_38 : a1.toInt = 1
    · skip
      have r_39 := rg_of (a := 1) (b := 1) 1 c_38 (by decide) (by decide)
      refine g_tableIn C (tgt := 54) dX12_dish_18 (by omega) (by omega) (off := 36) (by rw [c_38]; rfl) (by decide) ?_
      refine g_aload_n C 1 dX12_dish_54 rfl rfl ?_
      refine g_getR C K hLx hkx f_12_13 hb_1 dX12_dish_55 ?_
      refine g_bipush C (v := 24) dX12_dish_58 (by decide) ?_
      refine g_iload_n C 2 dX12_dish_60 rfl rfl ?_
      obtain ⟨x_40, hx_40, rx_40, tx_40⟩ := ex_add 24 29 rc_24 r_33 (by decide) (by decide) (by decide) (by decide)
      refine g_iadd C (v := x_40) dX12_dish_61 hx_40 ?_
      obtain ⟨x_41, hx_41, rx_41⟩ := ex_getw (I := I_23) (a := b_1) (j := x_40.toNatClampNeg) (lo := 0) (hi := 9) hU_24.1 hb_1L (ro_a hb_1k (by decide) hb_1o hkx rfl) (bn_834.trans (zq_24 (ix_k (lo := 24) (hi := 29) rx_40 (by decide) (by decide) (by decide))))
      refine h_iald C K hb_1L hb_1k (v := x_41) (x_40.toNatClampNeg) (rfl) (ix_0 rx_40 (by decide)) (ix_lt rx_40 (by decide) hb_1n (by decide)) hx_41 dX12_dish_62 ?_
      exact g_zret (ty := .int) (r := x_41) B K rfl (rfl) ⟨hU_24, hF_25, hG, rg_all _⟩ dX12_dish_63
    by_cases c_42 : a1.toInt = 2
    · skip
      have r_43 := rg_of (a := 2) (b := 2) 2 c_42 (by decide) (by decide)
      refine g_tableIn C (tgt := 64) dX12_dish_18 (by omega) (by omega) (off := 46) (by rw [c_42]; rfl) (by decide) ?_
      refine g_iconst C (v := 0) dX12_dish_64 (by decide) ?_
      refine g_istore C dX12_dish_65 (by decide) (lo2 := [(4, .int 0), (3, .int 0), (0, .ref x), (1, .int a0), (2, .int a1)]) rfl ?_
      refine g_lo (is := [2, 3, 4, 1, 0]) (lo2 := [(0, .ref x), (1, .int a0), (2, .int a1), (3, .int 0), (4, .int 0)]) rfl ?_
      exact l_67 8 I_23 J hU_24 hF_25 hG (r_33) (r_43) 0 0 (rg_w rc_0 (by decide) (by decide)) (kp_s hI_23) (ms_s (a := 0) (b := 7) (N := 8) (rg_w rc_0 (by decide) (by decide)) (by decide))
    have n_45 : ¬ a1 = 0 := (fun q => c_34 (by rw [q]; decide))
    have n_46 : ¬ a1 = 1 := (fun q => c_38 (by rw [q]; decide))
    have n_47 : ¬ a1 = 2 := (fun q => c_42 (by rw [q]; decide))
    obtain ⟨q_441, q_442⟩ := id ((rg_all a1))
    refine g_tableOut C (tgt := 96) dX12_dish_18 (by omega) (by decide) ?_
    refine g_iconst C (v := (-1)) dX12_dish_96 (by decide) ?_
    exact g_zret (ty := .int) (r := (-1)) B K rfl (rfl) ⟨hU_24, hF_25, hG, rg_all _⟩ dX12_dish_97
  · skip
    have r_48 := (⟨(rx_26).1, (eq_rg (h_30) rc_0).2⟩ : Rg 0 0 x_26)
    refine g_iconst C (v := (-1)) dX12_dish_13 (by decide) ?_
    exact g_zret (ty := .int) (r := (-1)) B K rfl (rfl) ⟨hU_24, hF_25, hG, rg_all _⟩ dX12_dish_14
set_option maxRecDepth 100000 in
set_option maxHeartbeats 8000000 in
theorem c_X12_sumOf_84 {l : Launch} {D : va_G} {cy : Nat → ClassId} {L : List Nat} {κ ln : Nat → Nat} {R : Nat → Nat → Option Nat} {I : Nat → Nat → Int32} {J : Nat → Nat → Int64} {ow : Nat → Nat × Nat} (W9 : ∀ a ∈ L, Shp L κ ln R ow a) {x : Nat} (hLx : x ∈ L) (hkx : κ x = 12) (hU : Iw L κ R ow I) : CtI l yX12_sumOf cX12_sumOf 4 (some .int) { frames := 0, cells := 0, slots := 0, locals := 0 } D cy L κ ln R I J [.ref x, .int 84] (fun r I2 J2 => I = I2 ∧ J = J2 ∧ Rg (-2147483648) 2147483647 r) := by
  refine CtI.of (by decide +kernel) (Nat.le_of_ble_eq_true rfl) ?_
  intro p e s m below meth c B K
  have C := B.1
  obtain ⟨b_1, hb_1, hb_1L, hb_1k, hb_1n, hb_1o⟩ := shp_a (W9 x hLx) hkx 14 14 389 rfl (by decide)
  refine g_lo (is := [0, 1]) (lo2 := [(0, .ref x), (1, .int 84)]) rfl ?_
  have l_4 : ∀ (n_4 : Nat) (v_2 : Int32) (v_3 : Int32) (rv_3 : Rg 0 7 v_3) (hm_4 : 7 < (v_3 : Int32).toInt + (n_4 : Int)), WG p l e { frames := 0, cells := 0, slots := 0, locals := 0 } s m ([.ref x, .int 84] : List Value).toArray below meth c 4 0 0 (MQ below (Qi_ D cy L κ ln R (fun r I2 J2 => I = I2 ∧ J = J2 ∧ Rg (-2147483648) 2147483647 r)) ([.ref x, .int 84] : List Value).toArray s 0 0 (Al_ L)) D cy (Al_ L) s.heap L κ ln R I J 4 [(0, .ref x), (1, .int 84), (2, .int v_2), (3, .int v_3)] [] := by
    intro n_4
    induction n_4 with
    | zero =>
      intro v_2 v_3 rv_3 hm_4
      exact ms_0 rv_3 hm_4
    | succ n_4 ih_4 =>
      intro v_2 v_3 rv_3 hm_4
      refine g_iload_n C 3 dX12_sumOf_4 rfl rfl ?_
      refine g_aload_n C 0 dX12_sumOf_5 rfl rfl ?_
      refine g_getR C K hLx hkx f_12_13 hb_1 dX12_sumOf_6 ?_
      refine g_iconst C (v := 0) dX12_sumOf_9 (by decide) ?_
      obtain ⟨x_5, hx_5, rx_5⟩ := ex_getw (I := I) (a := b_1) (j := 0) (lo := 0) (hi := 7) hU.1 hb_1L (ro_a hb_1k (by decide) hb_1o hkx rfl) (by decide)
      refine h_iald C K hb_1L hb_1k (v := x_5) (0) (by decide) (by decide) (by rw [hb_1n]; decide) hx_5 dX12_sumOf_10 ?_
      refine g_icmp_ge C (tgt := 31) dX12_sumOf_11 (by decide) (fun h_6 => ?_) (fun h_6 => ?_)
      · skip
        refine g_iload_n C 2 dX12_sumOf_31 rfl rfl ?_
        exact g_zret (ty := .int) (r := v_2) B K rfl (rfl) ⟨rfl, rfl, (rg_all v_2)⟩ dX12_sumOf_32
      · skip
        have r_7 := lt_l (hi := 6) (nle h_6) rv_3 rx_5 (by decide)
        have r_8 := lt_r (lo := 1) (nle h_6) rv_3 rx_5 (by decide)
        refine g_iload_n C 2 dX12_sumOf_14 rfl rfl ?_
        refine g_aload_n C 0 dX12_sumOf_15 rfl rfl ?_
        refine g_getR C K hLx hkx f_12_13 hb_1 dX12_sumOf_16 ?_
        refine g_iload_n C 1 dX12_sumOf_19 rfl rfl ?_
        refine g_iload_n C 3 dX12_sumOf_20 rfl rfl ?_
        obtain ⟨x_9, hx_9, rx_9, tx_9⟩ := ex_add 84 90 rc_84 r_7 (by decide) (by decide) (by decide) (by decide)
        refine g_iadd C (v := x_9) dX12_sumOf_21 hx_9 ?_
        obtain ⟨x_10, hx_10, rx_10⟩ := ex_any (z0 := I b_1 (x_9.toNatClampNeg))
        refine h_iald C K hb_1L hb_1k (v := x_10) (x_9.toNatClampNeg) (rfl) (ix_0 rx_9 (by decide)) (ix_lt rx_9 (by decide) hb_1n (by decide)) hx_10 dX12_sumOf_22 ?_
        obtain ⟨x_11, hx_11, rx_11⟩ := ex_any (z0 := v_2 + x_10)
        refine g_iadd C (v := x_11) dX12_sumOf_23 hx_11 ?_
        refine g_istore_n C dX12_sumOf_24 rfl (by decide) (lo2 := [(2, .int x_11), (0, .ref x), (1, .int 84), (3, .int v_3)]) rfl ?_
        obtain ⟨x_12, hx_12, rx_12, tx_12⟩ := ex_add (y := 1) 1 7 r_7 rc_1 (by decide) (by decide) (by decide) (by decide)
        refine g_iinc C dX12_sumOf_25 (k := 3) (v := x_12) rfl hx_12 (by decide) (lo2 := [(3, .int x_12), (2, .int x_11), (0, .ref x), (1, .int 84)]) rfl ?_
        refine g_goto C (tgt := 4) dX12_sumOf_28 (by decide) ?_
        refine g_lo (is := [2, 3, 1, 0]) (lo2 := [(0, .ref x), (1, .int 84), (2, .int x_11), (3, .int x_12)]) rfl ?_
        exact ih_4 x_11 x_12 (rg_w rx_12 (by decide) (by decide)) (ms_1 hm_4 (ti_k tx_12 rc_1) (by decide))
  refine g_iconst C (v := 0) dX12_sumOf_0 (by decide) ?_
  refine g_istore_n C dX12_sumOf_1 rfl (by decide) (lo2 := [(2, .int 0), (0, .ref x), (1, .int 84)]) rfl ?_
  refine g_iconst C (v := 0) dX12_sumOf_2 (by decide) ?_
  refine g_istore_n C dX12_sumOf_3 rfl (by decide) (lo2 := [(3, .int 0), (2, .int 0), (0, .ref x), (1, .int 84)]) rfl ?_
  refine g_lo (is := [2, 3, 1, 0]) (lo2 := [(0, .ref x), (1, .int 84), (2, .int 0), (3, .int 0)]) rfl ?_
  exact l_4 8 0 0 (rg_w rc_0 (by decide) (by decide)) (ms_s (a := 0) (b := 7) (N := 8) (rg_w rc_0 (by decide) (by decide)) (by decide))
set_option maxRecDepth 100000 in
set_option maxHeartbeats 8000000 in
theorem c_X12_sumOf_98 {l : Launch} {D : va_G} {cy : Nat → ClassId} {L : List Nat} {κ ln : Nat → Nat} {R : Nat → Nat → Option Nat} {I : Nat → Nat → Int32} {J : Nat → Nat → Int64} {ow : Nat → Nat × Nat} (W9 : ∀ a ∈ L, Shp L κ ln R ow a) {x : Nat} (hLx : x ∈ L) (hkx : κ x = 12) (hU : Iw L κ R ow I) : CtI l yX12_sumOf cX12_sumOf 4 (some .int) { frames := 0, cells := 0, slots := 0, locals := 0 } D cy L κ ln R I J [.ref x, .int 98] (fun r I2 J2 => I = I2 ∧ J = J2 ∧ Rg (-2147483648) 2147483647 r) := by
  refine CtI.of (by decide +kernel) (Nat.le_of_ble_eq_true rfl) ?_
  intro p e s m below meth c B K
  have C := B.1
  obtain ⟨b_1, hb_1, hb_1L, hb_1k, hb_1n, hb_1o⟩ := shp_a (W9 x hLx) hkx 14 14 389 rfl (by decide)
  refine g_lo (is := [0, 1]) (lo2 := [(0, .ref x), (1, .int 98)]) rfl ?_
  have l_4 : ∀ (n_4 : Nat) (v_2 : Int32) (v_3 : Int32) (rv_3 : Rg 0 7 v_3) (hm_4 : 7 < (v_3 : Int32).toInt + (n_4 : Int)), WG p l e { frames := 0, cells := 0, slots := 0, locals := 0 } s m ([.ref x, .int 98] : List Value).toArray below meth c 4 0 0 (MQ below (Qi_ D cy L κ ln R (fun r I2 J2 => I = I2 ∧ J = J2 ∧ Rg (-2147483648) 2147483647 r)) ([.ref x, .int 98] : List Value).toArray s 0 0 (Al_ L)) D cy (Al_ L) s.heap L κ ln R I J 4 [(0, .ref x), (1, .int 98), (2, .int v_2), (3, .int v_3)] [] := by
    intro n_4
    induction n_4 with
    | zero =>
      intro v_2 v_3 rv_3 hm_4
      exact ms_0 rv_3 hm_4
    | succ n_4 ih_4 =>
      intro v_2 v_3 rv_3 hm_4
      refine g_iload_n C 3 dX12_sumOf_4 rfl rfl ?_
      refine g_aload_n C 0 dX12_sumOf_5 rfl rfl ?_
      refine g_getR C K hLx hkx f_12_13 hb_1 dX12_sumOf_6 ?_
      refine g_iconst C (v := 0) dX12_sumOf_9 (by decide) ?_
      obtain ⟨x_5, hx_5, rx_5⟩ := ex_getw (I := I) (a := b_1) (j := 0) (lo := 0) (hi := 7) hU.1 hb_1L (ro_a hb_1k (by decide) hb_1o hkx rfl) (by decide)
      refine h_iald C K hb_1L hb_1k (v := x_5) (0) (by decide) (by decide) (by rw [hb_1n]; decide) hx_5 dX12_sumOf_10 ?_
      refine g_icmp_ge C (tgt := 31) dX12_sumOf_11 (by decide) (fun h_6 => ?_) (fun h_6 => ?_)
      · skip
        refine g_iload_n C 2 dX12_sumOf_31 rfl rfl ?_
        exact g_zret (ty := .int) (r := v_2) B K rfl (rfl) ⟨rfl, rfl, (rg_all v_2)⟩ dX12_sumOf_32
      · skip
        have r_7 := lt_l (hi := 6) (nle h_6) rv_3 rx_5 (by decide)
        have r_8 := lt_r (lo := 1) (nle h_6) rv_3 rx_5 (by decide)
        refine g_iload_n C 2 dX12_sumOf_14 rfl rfl ?_
        refine g_aload_n C 0 dX12_sumOf_15 rfl rfl ?_
        refine g_getR C K hLx hkx f_12_13 hb_1 dX12_sumOf_16 ?_
        refine g_iload_n C 1 dX12_sumOf_19 rfl rfl ?_
        refine g_iload_n C 3 dX12_sumOf_20 rfl rfl ?_
        obtain ⟨x_9, hx_9, rx_9, tx_9⟩ := ex_add 98 104 rc_98 r_7 (by decide) (by decide) (by decide) (by decide)
        refine g_iadd C (v := x_9) dX12_sumOf_21 hx_9 ?_
        obtain ⟨x_10, hx_10, rx_10⟩ := ex_any (z0 := I b_1 (x_9.toNatClampNeg))
        refine h_iald C K hb_1L hb_1k (v := x_10) (x_9.toNatClampNeg) (rfl) (ix_0 rx_9 (by decide)) (ix_lt rx_9 (by decide) hb_1n (by decide)) hx_10 dX12_sumOf_22 ?_
        obtain ⟨x_11, hx_11, rx_11⟩ := ex_any (z0 := v_2 + x_10)
        refine g_iadd C (v := x_11) dX12_sumOf_23 hx_11 ?_
        refine g_istore_n C dX12_sumOf_24 rfl (by decide) (lo2 := [(2, .int x_11), (0, .ref x), (1, .int 98), (3, .int v_3)]) rfl ?_
        obtain ⟨x_12, hx_12, rx_12, tx_12⟩ := ex_add (y := 1) 1 7 r_7 rc_1 (by decide) (by decide) (by decide) (by decide)
        refine g_iinc C dX12_sumOf_25 (k := 3) (v := x_12) rfl hx_12 (by decide) (lo2 := [(3, .int x_12), (2, .int x_11), (0, .ref x), (1, .int 98)]) rfl ?_
        refine g_goto C (tgt := 4) dX12_sumOf_28 (by decide) ?_
        refine g_lo (is := [2, 3, 1, 0]) (lo2 := [(0, .ref x), (1, .int 98), (2, .int x_11), (3, .int x_12)]) rfl ?_
        exact ih_4 x_11 x_12 (rg_w rx_12 (by decide) (by decide)) (ms_1 hm_4 (ti_k tx_12 rc_1) (by decide))
  refine g_iconst C (v := 0) dX12_sumOf_0 (by decide) ?_
  refine g_istore_n C dX12_sumOf_1 rfl (by decide) (lo2 := [(2, .int 0), (0, .ref x), (1, .int 98)]) rfl ?_
  refine g_iconst C (v := 0) dX12_sumOf_2 (by decide) ?_
  refine g_istore_n C dX12_sumOf_3 rfl (by decide) (lo2 := [(3, .int 0), (2, .int 0), (0, .ref x), (1, .int 98)]) rfl ?_
  refine g_lo (is := [2, 3, 1, 0]) (lo2 := [(0, .ref x), (1, .int 98), (2, .int 0), (3, .int 0)]) rfl ?_
  exact l_4 8 0 0 (rg_w rc_0 (by decide) (by decide)) (ms_s (a := 0) (b := 7) (N := 8) (rg_w rc_0 (by decide) (by decide)) (by decide))
