theorem dX8_looked_0 : decode cX8_looked 0 = .ok (.iconst 0, 1) := by decide +kernel
theorem dX8_looked_1 : decode cX8_looked 1 = .ok (.istore_n 1, 1) := by decide +kernel
theorem dX8_looked_2 : decode cX8_looked 2 = .ok (.iload_n 1, 1) := by decide +kernel
theorem dX8_looked_3 : decode cX8_looked 3 = .ok (.aload_n 0, 1) := by decide +kernel
theorem dX8_looked_4 : decode cX8_looked 4 = .ok (.getfield 126, 3) := by decide +kernel
theorem dX8_looked_7 : decode cX8_looked 7 = .ok (.if_icmp .ge 42, 3) := by decide +kernel
theorem dX8_looked_10 : decode cX8_looked 10 = .ok (.aload_n 0, 1) := by decide +kernel
theorem dX8_looked_11 : decode cX8_looked 11 = .ok (.aload_n 0, 1) := by decide +kernel
theorem dX8_looked_12 : decode cX8_looked 12 = .ok (.getfield 129, 3) := by decide +kernel
theorem dX8_looked_15 : decode cX8_looked 15 = .ok (.iload_n 1, 1) := by decide +kernel
theorem dX8_looked_16 : decode cX8_looked 16 = .ok (.iaload, 1) := by decide +kernel
theorem dX8_looked_17 : decode cX8_looked 17 = .ok (.invokevirtual 309, 3) := by decide +kernel
theorem dX8_looked_20 : decode cX8_looked 20 = .ok (.istore_n 2, 1) := by decide +kernel
theorem dX8_looked_21 : decode cX8_looked 21 = .ok (.aload_n 0, 1) := by decide +kernel
theorem dX8_looked_22 : decode cX8_looked 22 = .ok (.getfield 99, 3) := by decide +kernel
theorem dX8_looked_25 : decode cX8_looked 25 = .ok (.aload_n 0, 1) := by decide +kernel
theorem dX8_looked_26 : decode cX8_looked 26 = .ok (.getfield 132, 3) := by decide +kernel
theorem dX8_looked_29 : decode cX8_looked 29 = .ok (.iload_n 1, 1) := by decide +kernel
theorem dX8_looked_30 : decode cX8_looked 30 = .ok (.iaload, 1) := by decide +kernel
theorem dX8_looked_31 : decode cX8_looked 31 = .ok (.iaload, 1) := by decide +kernel
theorem dX8_looked_32 : decode cX8_looked 32 = .ok (.aload_n 0, 1) := by decide +kernel
theorem dX8_looked_33 : decode cX8_looked 33 = .ok (.getfield 135, 3) := by decide +kernel
theorem dX8_looked_36 : decode cX8_looked 36 = .ok (.iload_n 1, 1) := by decide +kernel
theorem dX8_looked_37 : decode cX8_looked 37 = .ok (.iaload, 1) := by decide +kernel
theorem dX8_looked_38 : decode cX8_looked 38 = .ok (.if_icmp .eq 5, 3) := by decide +kernel
theorem dX8_looked_41 : decode cX8_looked 41 = .ok (.iload_n 1, 1) := by decide +kernel
theorem dX8_looked_42 : decode cX8_looked 42 = .ok (.ireturn, 1) := by decide +kernel
theorem dX8_looked_43 : decode cX8_looked 43 = .ok (.iinc 1 1, 3) := by decide +kernel
theorem dX8_looked_46 : decode cX8_looked 46 = .ok (.goto (-44), 3) := by decide +kernel
theorem dX8_looked_49 : decode cX8_looked 49 = .ok (.bipush (-5), 2) := by decide +kernel
theorem dX8_looked_51 : decode cX8_looked 51 = .ok (.ireturn, 1) := by decide +kernel
theorem oM_looked : zok yX8_looked 0 := by decide +kernel
theorem dX8_judge_0 : decode cX8_judge 0 = .ok (.aload_n 0, 1) := by decide +kernel
theorem dX8_judge_1 : decode cX8_judge 1 = .ok (.iload_n 1, 1) := by decide +kernel
theorem dX8_judge_2 : decode cX8_judge 2 = .ok (.invokevirtual 333, 3) := by decide +kernel
theorem dX8_judge_5 : decode cX8_judge 5 = .ok (.ifCond .ne 5, 3) := by decide +kernel
theorem dX8_judge_8 : decode cX8_judge 8 = .ok (.iconst (-1), 1) := by decide +kernel
theorem dX8_judge_9 : decode cX8_judge 9 = .ok (.ireturn, 1) := by decide +kernel
theorem dX8_judge_10 : decode cX8_judge 10 = .ok (.aload_n 0, 1) := by decide +kernel
theorem dX8_judge_11 : decode cX8_judge 11 = .ok (.getfield 196, 3) := by decide +kernel
theorem dX8_judge_14 : decode cX8_judge 14 = .ok (.iload_n 1, 1) := by decide +kernel
theorem dX8_judge_15 : decode cX8_judge 15 = .ok (.iaload, 1) := by decide +kernel
theorem dX8_judge_16 : decode cX8_judge 16 = .ok (.ifCond .lt 16, 3) := by decide +kernel
theorem dX8_judge_19 : decode cX8_judge 19 = .ok (.aload_n 0, 1) := by decide +kernel
theorem dX8_judge_20 : decode cX8_judge 20 = .ok (.getfield 196, 3) := by decide +kernel
theorem dX8_judge_23 : decode cX8_judge 23 = .ok (.iload_n 1, 1) := by decide +kernel
theorem dX8_judge_24 : decode cX8_judge 24 = .ok (.iaload, 1) := by decide +kernel
theorem dX8_judge_25 : decode cX8_judge 25 = .ok (.iconst 1, 1) := by decide +kernel
theorem dX8_judge_26 : decode cX8_judge 26 = .ok (.if_icmp .eq 6, 3) := by decide +kernel
theorem dX8_judge_29 : decode cX8_judge 29 = .ok (.bipush (-12), 2) := by decide +kernel
theorem dX8_judge_31 : decode cX8_judge 31 = .ok (.ireturn, 1) := by decide +kernel
theorem dX8_judge_32 : decode cX8_judge 32 = .ok (.iconst 0, 1) := by decide +kernel
theorem dX8_judge_33 : decode cX8_judge 33 = .ok (.istore_n 3, 1) := by decide +kernel
theorem dX8_judge_34 : decode cX8_judge 34 = .ok (.iload_n 3, 1) := by decide +kernel
theorem dX8_judge_35 : decode cX8_judge 35 = .ok (.aload_n 0, 1) := by decide +kernel
theorem dX8_judge_36 : decode cX8_judge 36 = .ok (.getfield 7, 3) := by decide +kernel
theorem dX8_judge_39 : decode cX8_judge 39 = .ok (.if_icmp .ge 67, 3) := by decide +kernel
theorem dX8_judge_42 : decode cX8_judge 42 = .ok (.aload_n 0, 1) := by decide +kernel
theorem dX8_judge_43 : decode cX8_judge 43 = .ok (.getfield 196, 3) := by decide +kernel
theorem dX8_judge_46 : decode cX8_judge 46 = .ok (.iload_n 1, 1) := by decide +kernel
theorem dX8_judge_47 : decode cX8_judge 47 = .ok (.iaload, 1) := by decide +kernel
theorem dX8_judge_48 : decode cX8_judge 48 = .ok (.ifCond .lt 21, 3) := by decide +kernel
theorem dX8_judge_51 : decode cX8_judge 51 = .ok (.iload_n 2, 1) := by decide +kernel
theorem dX8_judge_52 : decode cX8_judge 52 = .ok (.ifCond .lt 17, 3) := by decide +kernel
theorem dX8_judge_55 : decode cX8_judge 55 = .ok (.iload_n 2, 1) := by decide +kernel
theorem dX8_judge_56 : decode cX8_judge 56 = .ok (.aload_n 0, 1) := by decide +kernel
theorem dX8_judge_57 : decode cX8_judge 57 = .ok (.getfield 199, 3) := by decide +kernel
theorem dX8_judge_60 : decode cX8_judge 60 = .ok (.iload_n 1, 1) := by decide +kernel
theorem dX8_judge_61 : decode cX8_judge 61 = .ok (.iaload, 1) := by decide +kernel
theorem dX8_judge_62 : decode cX8_judge 62 = .ok (.iload_n 3, 1) := by decide +kernel
theorem dX8_judge_63 : decode cX8_judge 63 = .ok (.isub, 1) := by decide +kernel
theorem dX8_judge_64 : decode cX8_judge 64 = .ok (.iconst 1, 1) := by decide +kernel
theorem dX8_judge_65 : decode cX8_judge 65 = .ok (.isub, 1) := by decide +kernel
theorem dX8_judge_66 : decode cX8_judge 66 = .ok (.if_icmp .le 8, 3) := by decide +kernel
theorem dX8_judge_69 : decode cX8_judge 69 = .ok (.bipush 100, 2) := by decide +kernel
theorem dX8_judge_71 : decode cX8_judge 71 = .ok (.iload_n 3, 1) := by decide +kernel
theorem dX8_judge_72 : decode cX8_judge 72 = .ok (.iadd, 1) := by decide +kernel
theorem dX8_judge_73 : decode cX8_judge 73 = .ok (.ireturn, 1) := by decide +kernel
theorem dX8_judge_74 : decode cX8_judge 74 = .ok (.aload_n 0, 1) := by decide +kernel
theorem dX8_judge_75 : decode cX8_judge 75 = .ok (.getfield 202, 3) := by decide +kernel
theorem dX8_judge_78 : decode cX8_judge 78 = .ok (.bipush 60, 2) := by decide +kernel
theorem dX8_judge_80 : decode cX8_judge 80 = .ok (.iload_n 1, 1) := by decide +kernel
theorem dX8_judge_81 : decode cX8_judge 81 = .ok (.imul, 1) := by decide +kernel
theorem dX8_judge_82 : decode cX8_judge 82 = .ok (.iload_n 2, 1) := by decide +kernel
theorem dX8_judge_83 : decode cX8_judge 83 = .ok (.iadd, 1) := by decide +kernel
theorem dX8_judge_84 : decode cX8_judge 84 = .ok (.iload_n 3, 1) := by decide +kernel
theorem dX8_judge_85 : decode cX8_judge 85 = .ok (.iadd, 1) := by decide +kernel
theorem dX8_judge_86 : decode cX8_judge 86 = .ok (.laload, 1) := by decide +kernel
theorem dX8_judge_87 : decode cX8_judge 87 = .ok (.aload_n 0, 1) := by decide +kernel
theorem dX8_judge_88 : decode cX8_judge 88 = .ok (.getfield 23, 3) := by decide +kernel
theorem dX8_judge_91 : decode cX8_judge 91 = .ok (.iload_n 3, 1) := by decide +kernel
theorem dX8_judge_92 : decode cX8_judge 92 = .ok (.iaload, 1) := by decide +kernel
theorem dX8_judge_93 : decode cX8_judge 93 = .ok (.i2l, 1) := by decide +kernel
theorem dX8_judge_94 : decode cX8_judge 94 = .ok (.lcmp, 1) := by decide +kernel
theorem dX8_judge_95 : decode cX8_judge 95 = .ok (.ifCond .eq 5, 3) := by decide +kernel
theorem dX8_judge_98 : decode cX8_judge 98 = .ok (.iload_n 3, 1) := by decide +kernel
theorem dX8_judge_99 : decode cX8_judge 99 = .ok (.ireturn, 1) := by decide +kernel
theorem dX8_judge_100 : decode cX8_judge 100 = .ok (.iinc 3 1, 3) := by decide +kernel
theorem dX8_judge_103 : decode cX8_judge 103 = .ok (.goto (-69), 3) := by decide +kernel
theorem dX8_judge_106 : decode cX8_judge 106 = .ok (.bipush (-5), 2) := by decide +kernel
theorem dX8_judge_108 : decode cX8_judge 108 = .ok (.ireturn, 1) := by decide +kernel
theorem oM_judge : zok yX8_judge 2 := by decide +kernel
theorem dX8_isTape_0 : decode cX8_isTape 0 = .ok (.aload_n 0, 1) := by decide +kernel
theorem dX8_isTape_1 : decode cX8_isTape 1 = .ok (.iload_n 1, 1) := by decide +kernel
theorem dX8_isTape_2 : decode cX8_isTape 2 = .ok (.iconst 0, 1) := by decide +kernel
theorem dX8_isTape_3 : decode cX8_isTape 3 = .ok (.iconst 5, 1) := by decide +kernel
theorem dX8_isTape_4 : decode cX8_isTape 4 = .ok (.invokevirtual 209, 3) := by decide +kernel
theorem dX8_isTape_7 : decode cX8_isTape 7 = .ok (.ireturn, 1) := by decide +kernel
theorem oM_isTape : zok yX8_isTape 1 := by decide +kernel
theorem dX8_image_0 : decode cX8_image 0 = .ok (.aload_n 0, 1) := by decide +kernel
theorem dX8_image_1 : decode cX8_image 1 = .ok (.iconst 1, 1) := by decide +kernel
theorem dX8_image_2 : decode cX8_image 2 = .ok (.putfield 138, 3) := by decide +kernel
theorem dX8_image_5 : decode cX8_image 5 = .ok (.aload_n 0, 1) := by decide +kernel
theorem dX8_image_6 : decode cX8_image 6 = .ok (.aload_n 0, 1) := by decide +kernel
theorem dX8_image_7 : decode cX8_image 7 = .ok (.getfield 44, 3) := by decide +kernel
theorem dX8_image_10 : decode cX8_image 10 = .ok (.putfield 142, 3) := by decide +kernel
theorem dX8_image_13 : decode cX8_image 13 = .ok (.aload_n 0, 1) := by decide +kernel
theorem dX8_image_14 : decode cX8_image 14 = .ok (.aload_n 0, 1) := by decide +kernel
theorem dX8_image_15 : decode cX8_image 15 = .ok (.getfield 7, 3) := by decide +kernel
theorem dX8_image_18 : decode cX8_image 18 = .ok (.putfield 145, 3) := by decide +kernel
theorem dX8_image_21 : decode cX8_image 21 = .ok (.aload_n 0, 1) := by decide +kernel
theorem dX8_image_22 : decode cX8_image 22 = .ok (.aload_n 0, 1) := by decide +kernel
theorem dX8_image_23 : decode cX8_image 23 = .ok (.getfield 13, 3) := by decide +kernel
theorem dX8_image_26 : decode cX8_image 26 = .ok (.putfield 148, 3) := by decide +kernel
theorem dX8_image_29 : decode cX8_image 29 = .ok (.aload_n 0, 1) := by decide +kernel
theorem dX8_image_30 : decode cX8_image 30 = .ok (.aload_n 0, 1) := by decide +kernel
theorem dX8_image_31 : decode cX8_image 31 = .ok (.getfield 126, 3) := by decide +kernel
theorem dX8_image_34 : decode cX8_image 34 = .ok (.putfield 151, 3) := by decide +kernel
theorem dX8_image_37 : decode cX8_image 37 = .ok (.iconst 0, 1) := by decide +kernel
theorem dX8_image_38 : decode cX8_image 38 = .ok (.istore_n 1, 1) := by decide +kernel
theorem dX8_image_39 : decode cX8_image 39 = .ok (.iload_n 1, 1) := by decide +kernel
theorem dX8_image_40 : decode cX8_image 40 = .ok (.bipush 6, 2) := by decide +kernel
theorem dX8_image_42 : decode cX8_image 42 = .ok (.if_icmp .ge 57, 3) := by decide +kernel
theorem dX8_image_45 : decode cX8_image 45 = .ok (.aload_n 0, 1) := by decide +kernel
theorem dX8_image_46 : decode cX8_image 46 = .ok (.getfield 154, 3) := by decide +kernel
theorem dX8_image_49 : decode cX8_image 49 = .ok (.iload_n 1, 1) := by decide +kernel
theorem dX8_image_50 : decode cX8_image 50 = .ok (.aload_n 0, 1) := by decide +kernel
theorem dX8_image_51 : decode cX8_image 51 = .ok (.getfield 16, 3) := by decide +kernel
theorem dX8_image_54 : decode cX8_image 54 = .ok (.iload_n 1, 1) := by decide +kernel
theorem dX8_image_55 : decode cX8_image 55 = .ok (.iaload, 1) := by decide +kernel
theorem dX8_image_56 : decode cX8_image 56 = .ok (.iastore, 1) := by decide +kernel
theorem dX8_image_57 : decode cX8_image 57 = .ok (.aload_n 0, 1) := by decide +kernel
theorem dX8_image_58 : decode cX8_image 58 = .ok (.getfield 157, 3) := by decide +kernel
theorem dX8_image_61 : decode cX8_image 61 = .ok (.iload_n 1, 1) := by decide +kernel
theorem dX8_image_62 : decode cX8_image 62 = .ok (.aload_n 0, 1) := by decide +kernel
theorem dX8_image_63 : decode cX8_image 63 = .ok (.getfield 20, 3) := by decide +kernel
theorem dX8_image_66 : decode cX8_image 66 = .ok (.iload_n 1, 1) := by decide +kernel
theorem dX8_image_67 : decode cX8_image 67 = .ok (.iaload, 1) := by decide +kernel
theorem dX8_image_68 : decode cX8_image 68 = .ok (.iastore, 1) := by decide +kernel
theorem dX8_image_69 : decode cX8_image 69 = .ok (.aload_n 0, 1) := by decide +kernel
theorem dX8_image_70 : decode cX8_image 70 = .ok (.getfield 160, 3) := by decide +kernel
theorem dX8_image_73 : decode cX8_image 73 = .ok (.iload_n 1, 1) := by decide +kernel
theorem dX8_image_74 : decode cX8_image 74 = .ok (.aload_n 0, 1) := by decide +kernel
theorem dX8_image_75 : decode cX8_image 75 = .ok (.getfield 23, 3) := by decide +kernel
theorem dX8_image_78 : decode cX8_image 78 = .ok (.iload_n 1, 1) := by decide +kernel
theorem dX8_image_79 : decode cX8_image 79 = .ok (.iaload, 1) := by decide +kernel
theorem dX8_image_80 : decode cX8_image 80 = .ok (.iastore, 1) := by decide +kernel
theorem dX8_image_81 : decode cX8_image 81 = .ok (.aload_n 0, 1) := by decide +kernel
theorem dX8_image_82 : decode cX8_image 82 = .ok (.getfield 163, 3) := by decide +kernel
theorem dX8_image_85 : decode cX8_image 85 = .ok (.iload_n 1, 1) := by decide +kernel
theorem dX8_image_86 : decode cX8_image 86 = .ok (.aload_n 0, 1) := by decide +kernel
theorem dX8_image_87 : decode cX8_image 87 = .ok (.getfield 26, 3) := by decide +kernel
theorem dX8_image_90 : decode cX8_image 90 = .ok (.iload_n 1, 1) := by decide +kernel
theorem dX8_image_91 : decode cX8_image 91 = .ok (.iaload, 1) := by decide +kernel
theorem dX8_image_92 : decode cX8_image 92 = .ok (.iastore, 1) := by decide +kernel
theorem dX8_image_93 : decode cX8_image 93 = .ok (.iinc 1 1, 3) := by decide +kernel
theorem dX8_image_96 : decode cX8_image 96 = .ok (.goto (-57), 3) := by decide +kernel
theorem dX8_image_99 : decode cX8_image 99 = .ok (.iconst 0, 1) := by decide +kernel
theorem dX8_image_100 : decode cX8_image 100 = .ok (.istore_n 1, 1) := by decide +kernel
theorem dX8_image_101 : decode cX8_image 101 = .ok (.iload_n 1, 1) := by decide +kernel
theorem dX8_image_102 : decode cX8_image 102 = .ok (.bipush 18, 2) := by decide +kernel
theorem dX8_image_104 : decode cX8_image 104 = .ok (.if_icmp .ge 45, 3) := by decide +kernel
theorem dX8_image_107 : decode cX8_image 107 = .ok (.aload_n 0, 1) := by decide +kernel
theorem dX8_image_108 : decode cX8_image 108 = .ok (.getfield 166, 3) := by decide +kernel
theorem dX8_image_111 : decode cX8_image 111 = .ok (.iload_n 1, 1) := by decide +kernel
theorem dX8_image_112 : decode cX8_image 112 = .ok (.aload_n 0, 1) := by decide +kernel
theorem dX8_image_113 : decode cX8_image 113 = .ok (.getfield 29, 3) := by decide +kernel
theorem dX8_image_116 : decode cX8_image 116 = .ok (.iload_n 1, 1) := by decide +kernel
theorem dX8_image_117 : decode cX8_image 117 = .ok (.iaload, 1) := by decide +kernel
theorem dX8_image_118 : decode cX8_image 118 = .ok (.iastore, 1) := by decide +kernel
theorem dX8_image_119 : decode cX8_image 119 = .ok (.aload_n 0, 1) := by decide +kernel
theorem dX8_image_120 : decode cX8_image 120 = .ok (.getfield 169, 3) := by decide +kernel
theorem dX8_image_123 : decode cX8_image 123 = .ok (.iload_n 1, 1) := by decide +kernel
theorem dX8_image_124 : decode cX8_image 124 = .ok (.aload_n 0, 1) := by decide +kernel
theorem dX8_image_125 : decode cX8_image 125 = .ok (.getfield 32, 3) := by decide +kernel
theorem dX8_image_128 : decode cX8_image 128 = .ok (.iload_n 1, 1) := by decide +kernel
theorem dX8_image_129 : decode cX8_image 129 = .ok (.iaload, 1) := by decide +kernel
theorem dX8_image_130 : decode cX8_image 130 = .ok (.iastore, 1) := by decide +kernel
theorem dX8_image_131 : decode cX8_image 131 = .ok (.aload_n 0, 1) := by decide +kernel
theorem dX8_image_132 : decode cX8_image 132 = .ok (.getfield 172, 3) := by decide +kernel
theorem dX8_image_135 : decode cX8_image 135 = .ok (.iload_n 1, 1) := by decide +kernel
theorem dX8_image_136 : decode cX8_image 136 = .ok (.aload_n 0, 1) := by decide +kernel
theorem dX8_image_137 : decode cX8_image 137 = .ok (.getfield 35, 3) := by decide +kernel
theorem dX8_image_140 : decode cX8_image 140 = .ok (.iload_n 1, 1) := by decide +kernel
theorem dX8_image_141 : decode cX8_image 141 = .ok (.iaload, 1) := by decide +kernel
theorem dX8_image_142 : decode cX8_image 142 = .ok (.iastore, 1) := by decide +kernel
theorem dX8_image_143 : decode cX8_image 143 = .ok (.iinc 1 1, 3) := by decide +kernel
theorem dX8_image_146 : decode cX8_image 146 = .ok (.goto (-45), 3) := by decide +kernel
theorem dX8_image_149 : decode cX8_image 149 = .ok (.iconst 0, 1) := by decide +kernel
theorem dX8_image_150 : decode cX8_image 150 = .ok (.istore_n 1, 1) := by decide +kernel
theorem dX8_image_151 : decode cX8_image 151 = .ok (.iload_n 1, 1) := by decide +kernel
theorem dX8_image_152 : decode cX8_image 152 = .ok (.bipush 24, 2) := by decide +kernel
theorem dX8_image_154 : decode cX8_image 154 = .ok (.if_icmp .ge 21, 3) := by decide +kernel
theorem dX8_image_157 : decode cX8_image 157 = .ok (.aload_n 0, 1) := by decide +kernel
theorem dX8_image_158 : decode cX8_image 158 = .ok (.getfield 175, 3) := by decide +kernel
theorem dX8_image_161 : decode cX8_image 161 = .ok (.iload_n 1, 1) := by decide +kernel
theorem dX8_image_162 : decode cX8_image 162 = .ok (.aload_n 0, 1) := by decide +kernel
theorem dX8_image_163 : decode cX8_image 163 = .ok (.getfield 38, 3) := by decide +kernel
theorem dX8_image_166 : decode cX8_image 166 = .ok (.iload_n 1, 1) := by decide +kernel
theorem dX8_image_167 : decode cX8_image 167 = .ok (.iaload, 1) := by decide +kernel
theorem dX8_image_168 : decode cX8_image 168 = .ok (.iastore, 1) := by decide +kernel
theorem dX8_image_169 : decode cX8_image 169 = .ok (.iinc 1 1, 3) := by decide +kernel
theorem dX8_image_172 : decode cX8_image 172 = .ok (.goto (-21), 3) := by decide +kernel
theorem dX8_image_175 : decode cX8_image 175 = .ok (.iconst 0, 1) := by decide +kernel
theorem dX8_image_176 : decode cX8_image 176 = .ok (.istore_n 1, 1) := by decide +kernel
theorem dX8_image_177 : decode cX8_image 177 = .ok (.iload_n 1, 1) := by decide +kernel
theorem dX8_image_178 : decode cX8_image 178 = .ok (.iconst 3, 1) := by decide +kernel
theorem dX8_image_179 : decode cX8_image 179 = .ok (.if_icmp .ge 21, 3) := by decide +kernel
theorem dX8_image_182 : decode cX8_image 182 = .ok (.aload_n 0, 1) := by decide +kernel
theorem dX8_image_183 : decode cX8_image 183 = .ok (.getfield 178, 3) := by decide +kernel
theorem dX8_image_186 : decode cX8_image 186 = .ok (.iload_n 1, 1) := by decide +kernel
theorem dX8_image_187 : decode cX8_image 187 = .ok (.aload_n 0, 1) := by decide +kernel
theorem dX8_image_188 : decode cX8_image 188 = .ok (.getfield 120, 3) := by decide +kernel
theorem dX8_image_191 : decode cX8_image 191 = .ok (.iload_n 1, 1) := by decide +kernel
theorem dX8_image_192 : decode cX8_image 192 = .ok (.iaload, 1) := by decide +kernel
theorem dX8_image_193 : decode cX8_image 193 = .ok (.iastore, 1) := by decide +kernel
theorem dX8_image_194 : decode cX8_image 194 = .ok (.iinc 1 1, 3) := by decide +kernel
theorem dX8_image_197 : decode cX8_image 197 = .ok (.goto (-20), 3) := by decide +kernel
theorem dX8_image_200 : decode cX8_image 200 = .ok (.iconst 0, 1) := by decide +kernel
theorem dX8_image_201 : decode cX8_image 201 = .ok (.istore_n 1, 1) := by decide +kernel
theorem dX8_image_202 : decode cX8_image 202 = .ok (.iload_n 1, 1) := by decide +kernel
theorem dX8_image_203 : decode cX8_image 203 = .ok (.bipush 12, 2) := by decide +kernel
theorem dX8_image_205 : decode cX8_image 205 = .ok (.if_icmp .ge 45, 3) := by decide +kernel
theorem dX8_image_208 : decode cX8_image 208 = .ok (.aload_n 0, 1) := by decide +kernel
theorem dX8_image_209 : decode cX8_image 209 = .ok (.getfield 181, 3) := by decide +kernel
theorem dX8_image_212 : decode cX8_image 212 = .ok (.iload_n 1, 1) := by decide +kernel
theorem dX8_image_213 : decode cX8_image 213 = .ok (.aload_n 0, 1) := by decide +kernel
theorem dX8_image_214 : decode cX8_image 214 = .ok (.getfield 129, 3) := by decide +kernel
theorem dX8_image_217 : decode cX8_image 217 = .ok (.iload_n 1, 1) := by decide +kernel
theorem dX8_image_218 : decode cX8_image 218 = .ok (.iaload, 1) := by decide +kernel
theorem dX8_image_219 : decode cX8_image 219 = .ok (.iastore, 1) := by decide +kernel
theorem dX8_image_220 : decode cX8_image 220 = .ok (.aload_n 0, 1) := by decide +kernel
theorem dX8_image_221 : decode cX8_image 221 = .ok (.getfield 184, 3) := by decide +kernel
theorem dX8_image_224 : decode cX8_image 224 = .ok (.iload_n 1, 1) := by decide +kernel
theorem dX8_image_225 : decode cX8_image 225 = .ok (.aload_n 0, 1) := by decide +kernel
theorem dX8_image_226 : decode cX8_image 226 = .ok (.getfield 132, 3) := by decide +kernel
theorem dX8_image_229 : decode cX8_image 229 = .ok (.iload_n 1, 1) := by decide +kernel
theorem dX8_image_230 : decode cX8_image 230 = .ok (.iaload, 1) := by decide +kernel
theorem dX8_image_231 : decode cX8_image 231 = .ok (.iastore, 1) := by decide +kernel
theorem dX8_image_232 : decode cX8_image 232 = .ok (.aload_n 0, 1) := by decide +kernel
theorem dX8_image_233 : decode cX8_image 233 = .ok (.getfield 187, 3) := by decide +kernel
theorem dX8_image_236 : decode cX8_image 236 = .ok (.iload_n 1, 1) := by decide +kernel
theorem dX8_image_237 : decode cX8_image 237 = .ok (.aload_n 0, 1) := by decide +kernel
theorem dX8_image_238 : decode cX8_image 238 = .ok (.getfield 135, 3) := by decide +kernel
theorem dX8_image_241 : decode cX8_image 241 = .ok (.iload_n 1, 1) := by decide +kernel
theorem dX8_image_242 : decode cX8_image 242 = .ok (.iaload, 1) := by decide +kernel
theorem dX8_image_243 : decode cX8_image 243 = .ok (.iastore, 1) := by decide +kernel
theorem dX8_image_244 : decode cX8_image 244 = .ok (.iinc 1 1, 3) := by decide +kernel
theorem dX8_image_247 : decode cX8_image 247 = .ok (.goto (-45), 3) := by decide +kernel
theorem dX8_image_250 : decode cX8_image 250 = .ok (.aload_n 0, 1) := by decide +kernel
theorem dX8_image_251 : decode cX8_image 251 = .ok (.getfield 7, 3) := by decide +kernel
theorem dX8_image_254 : decode cX8_image 254 = .ok (.ireturn, 1) := by decide +kernel
theorem oM_image : zok yX8_image 0 := by decide +kernel
theorem dX8_undo_0 : decode cX8_undo 0 = .ok (.aload_n 0, 1) := by decide +kernel
theorem dX8_undo_1 : decode cX8_undo 1 = .ok (.getfield 138, 3) := by decide +kernel
theorem dX8_undo_4 : decode cX8_undo 4 = .ok (.ifCond .ne 6, 3) := by decide +kernel
theorem dX8_undo_7 : decode cX8_undo 7 = .ok (.bipush (-3), 2) := by decide +kernel
theorem dX8_undo_9 : decode cX8_undo 9 = .ok (.ireturn, 1) := by decide +kernel
theorem dX8_undo_10 : decode cX8_undo 10 = .ok (.aload_n 0, 1) := by decide +kernel
theorem dX8_undo_11 : decode cX8_undo 11 = .ok (.aload_n 0, 1) := by decide +kernel
theorem dX8_undo_12 : decode cX8_undo 12 = .ok (.getfield 142, 3) := by decide +kernel
theorem dX8_undo_15 : decode cX8_undo 15 = .ok (.putfield 44, 3) := by decide +kernel
theorem dX8_undo_18 : decode cX8_undo 18 = .ok (.aload_n 0, 1) := by decide +kernel
theorem dX8_undo_19 : decode cX8_undo 19 = .ok (.aload_n 0, 1) := by decide +kernel
theorem dX8_undo_20 : decode cX8_undo 20 = .ok (.getfield 145, 3) := by decide +kernel
theorem dX8_undo_23 : decode cX8_undo 23 = .ok (.putfield 7, 3) := by decide +kernel
theorem dX8_undo_26 : decode cX8_undo 26 = .ok (.aload_n 0, 1) := by decide +kernel
theorem dX8_undo_27 : decode cX8_undo 27 = .ok (.aload_n 0, 1) := by decide +kernel
theorem dX8_undo_28 : decode cX8_undo 28 = .ok (.getfield 148, 3) := by decide +kernel
theorem dX8_undo_31 : decode cX8_undo 31 = .ok (.putfield 13, 3) := by decide +kernel
theorem dX8_undo_34 : decode cX8_undo 34 = .ok (.aload_n 0, 1) := by decide +kernel
theorem dX8_undo_35 : decode cX8_undo 35 = .ok (.aload_n 0, 1) := by decide +kernel
theorem dX8_undo_36 : decode cX8_undo 36 = .ok (.getfield 151, 3) := by decide +kernel
theorem dX8_undo_39 : decode cX8_undo 39 = .ok (.putfield 126, 3) := by decide +kernel
theorem dX8_undo_42 : decode cX8_undo 42 = .ok (.iconst 0, 1) := by decide +kernel
theorem dX8_undo_43 : decode cX8_undo 43 = .ok (.istore_n 1, 1) := by decide +kernel
theorem dX8_undo_44 : decode cX8_undo 44 = .ok (.iload_n 1, 1) := by decide +kernel
theorem dX8_undo_45 : decode cX8_undo 45 = .ok (.bipush 6, 2) := by decide +kernel
theorem dX8_undo_47 : decode cX8_undo 47 = .ok (.if_icmp .ge 57, 3) := by decide +kernel
theorem dX8_undo_50 : decode cX8_undo 50 = .ok (.aload_n 0, 1) := by decide +kernel
theorem dX8_undo_51 : decode cX8_undo 51 = .ok (.getfield 16, 3) := by decide +kernel
theorem dX8_undo_54 : decode cX8_undo 54 = .ok (.iload_n 1, 1) := by decide +kernel
theorem dX8_undo_55 : decode cX8_undo 55 = .ok (.aload_n 0, 1) := by decide +kernel
theorem dX8_undo_56 : decode cX8_undo 56 = .ok (.getfield 154, 3) := by decide +kernel
theorem dX8_undo_59 : decode cX8_undo 59 = .ok (.iload_n 1, 1) := by decide +kernel
theorem dX8_undo_60 : decode cX8_undo 60 = .ok (.iaload, 1) := by decide +kernel
theorem dX8_undo_61 : decode cX8_undo 61 = .ok (.iastore, 1) := by decide +kernel
theorem dX8_undo_62 : decode cX8_undo 62 = .ok (.aload_n 0, 1) := by decide +kernel
theorem dX8_undo_63 : decode cX8_undo 63 = .ok (.getfield 20, 3) := by decide +kernel
theorem dX8_undo_66 : decode cX8_undo 66 = .ok (.iload_n 1, 1) := by decide +kernel
theorem dX8_undo_67 : decode cX8_undo 67 = .ok (.aload_n 0, 1) := by decide +kernel
theorem dX8_undo_68 : decode cX8_undo 68 = .ok (.getfield 157, 3) := by decide +kernel
theorem dX8_undo_71 : decode cX8_undo 71 = .ok (.iload_n 1, 1) := by decide +kernel
theorem dX8_undo_72 : decode cX8_undo 72 = .ok (.iaload, 1) := by decide +kernel
theorem dX8_undo_73 : decode cX8_undo 73 = .ok (.iastore, 1) := by decide +kernel
theorem dX8_undo_74 : decode cX8_undo 74 = .ok (.aload_n 0, 1) := by decide +kernel
theorem dX8_undo_75 : decode cX8_undo 75 = .ok (.getfield 23, 3) := by decide +kernel
theorem dX8_undo_78 : decode cX8_undo 78 = .ok (.iload_n 1, 1) := by decide +kernel
theorem dX8_undo_79 : decode cX8_undo 79 = .ok (.aload_n 0, 1) := by decide +kernel
theorem dX8_undo_80 : decode cX8_undo 80 = .ok (.getfield 160, 3) := by decide +kernel
theorem dX8_undo_83 : decode cX8_undo 83 = .ok (.iload_n 1, 1) := by decide +kernel
theorem dX8_undo_84 : decode cX8_undo 84 = .ok (.iaload, 1) := by decide +kernel
theorem dX8_undo_85 : decode cX8_undo 85 = .ok (.iastore, 1) := by decide +kernel
theorem dX8_undo_86 : decode cX8_undo 86 = .ok (.aload_n 0, 1) := by decide +kernel
theorem dX8_undo_87 : decode cX8_undo 87 = .ok (.getfield 26, 3) := by decide +kernel
theorem dX8_undo_90 : decode cX8_undo 90 = .ok (.iload_n 1, 1) := by decide +kernel
theorem dX8_undo_91 : decode cX8_undo 91 = .ok (.aload_n 0, 1) := by decide +kernel
theorem dX8_undo_92 : decode cX8_undo 92 = .ok (.getfield 163, 3) := by decide +kernel
theorem dX8_undo_95 : decode cX8_undo 95 = .ok (.iload_n 1, 1) := by decide +kernel
theorem dX8_undo_96 : decode cX8_undo 96 = .ok (.iaload, 1) := by decide +kernel
theorem dX8_undo_97 : decode cX8_undo 97 = .ok (.iastore, 1) := by decide +kernel
theorem dX8_undo_98 : decode cX8_undo 98 = .ok (.iinc 1 1, 3) := by decide +kernel
theorem dX8_undo_101 : decode cX8_undo 101 = .ok (.goto (-57), 3) := by decide +kernel
theorem dX8_undo_104 : decode cX8_undo 104 = .ok (.iconst 0, 1) := by decide +kernel
theorem dX8_undo_105 : decode cX8_undo 105 = .ok (.istore_n 1, 1) := by decide +kernel
theorem dX8_undo_106 : decode cX8_undo 106 = .ok (.iload_n 1, 1) := by decide +kernel
theorem dX8_undo_107 : decode cX8_undo 107 = .ok (.bipush 18, 2) := by decide +kernel
theorem dX8_undo_109 : decode cX8_undo 109 = .ok (.if_icmp .ge 45, 3) := by decide +kernel
theorem dX8_undo_112 : decode cX8_undo 112 = .ok (.aload_n 0, 1) := by decide +kernel
theorem dX8_undo_113 : decode cX8_undo 113 = .ok (.getfield 29, 3) := by decide +kernel
theorem dX8_undo_116 : decode cX8_undo 116 = .ok (.iload_n 1, 1) := by decide +kernel
theorem dX8_undo_117 : decode cX8_undo 117 = .ok (.aload_n 0, 1) := by decide +kernel
theorem dX8_undo_118 : decode cX8_undo 118 = .ok (.getfield 166, 3) := by decide +kernel
theorem dX8_undo_121 : decode cX8_undo 121 = .ok (.iload_n 1, 1) := by decide +kernel
theorem dX8_undo_122 : decode cX8_undo 122 = .ok (.iaload, 1) := by decide +kernel
theorem dX8_undo_123 : decode cX8_undo 123 = .ok (.iastore, 1) := by decide +kernel
theorem dX8_undo_124 : decode cX8_undo 124 = .ok (.aload_n 0, 1) := by decide +kernel
theorem dX8_undo_125 : decode cX8_undo 125 = .ok (.getfield 32, 3) := by decide +kernel
theorem dX8_undo_128 : decode cX8_undo 128 = .ok (.iload_n 1, 1) := by decide +kernel
theorem dX8_undo_129 : decode cX8_undo 129 = .ok (.aload_n 0, 1) := by decide +kernel
theorem dX8_undo_130 : decode cX8_undo 130 = .ok (.getfield 169, 3) := by decide +kernel
theorem dX8_undo_133 : decode cX8_undo 133 = .ok (.iload_n 1, 1) := by decide +kernel
theorem dX8_undo_134 : decode cX8_undo 134 = .ok (.iaload, 1) := by decide +kernel
theorem dX8_undo_135 : decode cX8_undo 135 = .ok (.iastore, 1) := by decide +kernel
theorem dX8_undo_136 : decode cX8_undo 136 = .ok (.aload_n 0, 1) := by decide +kernel
theorem dX8_undo_137 : decode cX8_undo 137 = .ok (.getfield 35, 3) := by decide +kernel
theorem dX8_undo_140 : decode cX8_undo 140 = .ok (.iload_n 1, 1) := by decide +kernel
theorem dX8_undo_141 : decode cX8_undo 141 = .ok (.aload_n 0, 1) := by decide +kernel
theorem dX8_undo_142 : decode cX8_undo 142 = .ok (.getfield 172, 3) := by decide +kernel
theorem dX8_undo_145 : decode cX8_undo 145 = .ok (.iload_n 1, 1) := by decide +kernel
theorem dX8_undo_146 : decode cX8_undo 146 = .ok (.iaload, 1) := by decide +kernel
theorem dX8_undo_147 : decode cX8_undo 147 = .ok (.iastore, 1) := by decide +kernel
theorem dX8_undo_148 : decode cX8_undo 148 = .ok (.iinc 1 1, 3) := by decide +kernel
theorem dX8_undo_151 : decode cX8_undo 151 = .ok (.goto (-45), 3) := by decide +kernel
theorem dX8_undo_154 : decode cX8_undo 154 = .ok (.iconst 0, 1) := by decide +kernel
theorem dX8_undo_155 : decode cX8_undo 155 = .ok (.istore_n 1, 1) := by decide +kernel
theorem dX8_undo_156 : decode cX8_undo 156 = .ok (.iload_n 1, 1) := by decide +kernel
theorem dX8_undo_157 : decode cX8_undo 157 = .ok (.bipush 24, 2) := by decide +kernel
theorem dX8_undo_159 : decode cX8_undo 159 = .ok (.if_icmp .ge 21, 3) := by decide +kernel
theorem dX8_undo_162 : decode cX8_undo 162 = .ok (.aload_n 0, 1) := by decide +kernel
theorem dX8_undo_163 : decode cX8_undo 163 = .ok (.getfield 38, 3) := by decide +kernel
theorem dX8_undo_166 : decode cX8_undo 166 = .ok (.iload_n 1, 1) := by decide +kernel
theorem dX8_undo_167 : decode cX8_undo 167 = .ok (.aload_n 0, 1) := by decide +kernel
theorem dX8_undo_168 : decode cX8_undo 168 = .ok (.getfield 175, 3) := by decide +kernel
theorem dX8_undo_171 : decode cX8_undo 171 = .ok (.iload_n 1, 1) := by decide +kernel
theorem dX8_undo_172 : decode cX8_undo 172 = .ok (.iaload, 1) := by decide +kernel
theorem dX8_undo_173 : decode cX8_undo 173 = .ok (.iastore, 1) := by decide +kernel
theorem dX8_undo_174 : decode cX8_undo 174 = .ok (.iinc 1 1, 3) := by decide +kernel
theorem dX8_undo_177 : decode cX8_undo 177 = .ok (.goto (-21), 3) := by decide +kernel
theorem dX8_undo_180 : decode cX8_undo 180 = .ok (.iconst 0, 1) := by decide +kernel
theorem dX8_undo_181 : decode cX8_undo 181 = .ok (.istore_n 1, 1) := by decide +kernel
theorem dX8_undo_182 : decode cX8_undo 182 = .ok (.iload_n 1, 1) := by decide +kernel
theorem dX8_undo_183 : decode cX8_undo 183 = .ok (.iconst 3, 1) := by decide +kernel
theorem dX8_undo_184 : decode cX8_undo 184 = .ok (.if_icmp .ge 21, 3) := by decide +kernel
theorem dX8_undo_187 : decode cX8_undo 187 = .ok (.aload_n 0, 1) := by decide +kernel
theorem dX8_undo_188 : decode cX8_undo 188 = .ok (.getfield 120, 3) := by decide +kernel
theorem dX8_undo_191 : decode cX8_undo 191 = .ok (.iload_n 1, 1) := by decide +kernel
theorem dX8_undo_192 : decode cX8_undo 192 = .ok (.aload_n 0, 1) := by decide +kernel
theorem dX8_undo_193 : decode cX8_undo 193 = .ok (.getfield 178, 3) := by decide +kernel
theorem dX8_undo_196 : decode cX8_undo 196 = .ok (.iload_n 1, 1) := by decide +kernel
theorem dX8_undo_197 : decode cX8_undo 197 = .ok (.iaload, 1) := by decide +kernel
theorem dX8_undo_198 : decode cX8_undo 198 = .ok (.iastore, 1) := by decide +kernel
theorem dX8_undo_199 : decode cX8_undo 199 = .ok (.iinc 1 1, 3) := by decide +kernel
theorem dX8_undo_202 : decode cX8_undo 202 = .ok (.goto (-20), 3) := by decide +kernel
theorem dX8_undo_205 : decode cX8_undo 205 = .ok (.iconst 0, 1) := by decide +kernel
theorem dX8_undo_206 : decode cX8_undo 206 = .ok (.istore_n 1, 1) := by decide +kernel
theorem dX8_undo_207 : decode cX8_undo 207 = .ok (.iload_n 1, 1) := by decide +kernel
theorem dX8_undo_208 : decode cX8_undo 208 = .ok (.bipush 12, 2) := by decide +kernel
theorem dX8_undo_210 : decode cX8_undo 210 = .ok (.if_icmp .ge 45, 3) := by decide +kernel
theorem dX8_undo_213 : decode cX8_undo 213 = .ok (.aload_n 0, 1) := by decide +kernel
theorem dX8_undo_214 : decode cX8_undo 214 = .ok (.getfield 129, 3) := by decide +kernel
theorem dX8_undo_217 : decode cX8_undo 217 = .ok (.iload_n 1, 1) := by decide +kernel
theorem dX8_undo_218 : decode cX8_undo 218 = .ok (.aload_n 0, 1) := by decide +kernel
theorem dX8_undo_219 : decode cX8_undo 219 = .ok (.getfield 181, 3) := by decide +kernel
theorem dX8_undo_222 : decode cX8_undo 222 = .ok (.iload_n 1, 1) := by decide +kernel
theorem dX8_undo_223 : decode cX8_undo 223 = .ok (.iaload, 1) := by decide +kernel
theorem dX8_undo_224 : decode cX8_undo 224 = .ok (.iastore, 1) := by decide +kernel
theorem dX8_undo_225 : decode cX8_undo 225 = .ok (.aload_n 0, 1) := by decide +kernel
theorem dX8_undo_226 : decode cX8_undo 226 = .ok (.getfield 132, 3) := by decide +kernel
theorem dX8_undo_229 : decode cX8_undo 229 = .ok (.iload_n 1, 1) := by decide +kernel
theorem dX8_undo_230 : decode cX8_undo 230 = .ok (.aload_n 0, 1) := by decide +kernel
theorem dX8_undo_231 : decode cX8_undo 231 = .ok (.getfield 184, 3) := by decide +kernel
theorem dX8_undo_234 : decode cX8_undo 234 = .ok (.iload_n 1, 1) := by decide +kernel
theorem dX8_undo_235 : decode cX8_undo 235 = .ok (.iaload, 1) := by decide +kernel
theorem dX8_undo_236 : decode cX8_undo 236 = .ok (.iastore, 1) := by decide +kernel
theorem dX8_undo_237 : decode cX8_undo 237 = .ok (.aload_n 0, 1) := by decide +kernel
theorem dX8_undo_238 : decode cX8_undo 238 = .ok (.getfield 135, 3) := by decide +kernel
theorem dX8_undo_241 : decode cX8_undo 241 = .ok (.iload_n 1, 1) := by decide +kernel
theorem dX8_undo_242 : decode cX8_undo 242 = .ok (.aload_n 0, 1) := by decide +kernel
theorem dX8_undo_243 : decode cX8_undo 243 = .ok (.getfield 187, 3) := by decide +kernel
theorem dX8_undo_246 : decode cX8_undo 246 = .ok (.iload_n 1, 1) := by decide +kernel
theorem dX8_undo_247 : decode cX8_undo 247 = .ok (.iaload, 1) := by decide +kernel
theorem dX8_undo_248 : decode cX8_undo 248 = .ok (.iastore, 1) := by decide +kernel
theorem dX8_undo_249 : decode cX8_undo 249 = .ok (.iinc 1 1, 3) := by decide +kernel
theorem dX8_undo_252 : decode cX8_undo 252 = .ok (.goto (-45), 3) := by decide +kernel
theorem dX8_undo_255 : decode cX8_undo 255 = .ok (.aload_n 0, 1) := by decide +kernel
theorem dX8_undo_256 : decode cX8_undo 256 = .ok (.getfield 7, 3) := by decide +kernel
theorem dX8_undo_259 : decode cX8_undo 259 = .ok (.ireturn, 1) := by decide +kernel
theorem oM_undo : zok yX8_undo 0 := by decide +kernel
theorem dX8_act_0 : decode cX8_act 0 = .ok (.aload_n 0, 1) := by decide +kernel
theorem dX8_act_1 : decode cX8_act 1 = .ok (.iconst 0, 1) := by decide +kernel
theorem dX8_act_2 : decode cX8_act 2 = .ok (.putfield 190, 3) := by decide +kernel
theorem dX8_act_5 : decode cX8_act 5 = .ok (.aload_n 0, 1) := by decide +kernel
theorem dX8_act_6 : decode cX8_act 6 = .ok (.iload_n 1, 1) := by decide +kernel
theorem dX8_act_7 : decode cX8_act 7 = .ok (.invokevirtual 213, 3) := by decide +kernel
theorem dX8_act_10 : decode cX8_act 10 = .ok (.ifCond .eq 13, 3) := by decide +kernel
theorem dX8_act_13 : decode cX8_act 13 = .ok (.aload_n 0, 1) := by decide +kernel
theorem dX8_act_14 : decode cX8_act 14 = .ok (.iload_n 2, 1) := by decide +kernel
theorem dX8_act_15 : decode cX8_act 15 = .ok (.iconst 0, 1) := by decide +kernel
theorem dX8_act_16 : decode cX8_act 16 = .ok (.iconst 2, 1) := by decide +kernel
theorem dX8_act_17 : decode cX8_act 17 = .ok (.invokevirtual 209, 3) := by decide +kernel
theorem dX8_act_20 : decode cX8_act 20 = .ok (.ifCond .ne 5, 3) := by decide +kernel
theorem dX8_act_23 : decode cX8_act 23 = .ok (.iconst 0, 1) := by decide +kernel
theorem dX8_act_24 : decode cX8_act 24 = .ok (.ireturn, 1) := by decide +kernel
theorem dX8_act_25 : decode cX8_act 25 = .ok (.iload_n 2, 1) := by decide +kernel
theorem dX8_act_26 : decode cX8_act 26 = .ok (.ifCond .ne 12, 3) := by decide +kernel
theorem dX8_act_29 : decode cX8_act 29 = .ok (.aload_n 0, 1) := by decide +kernel
theorem dX8_act_30 : decode cX8_act 30 = .ok (.iload_n 1, 1) := by decide +kernel
theorem dX8_act_31 : decode cX8_act 31 = .ok (.iload_n 3, 1) := by decide +kernel
theorem dX8_act_32 : decode cX8_act 32 = .ok (.invokevirtual 342, 3) := by decide +kernel
theorem dX8_act_35 : decode cX8_act 35 = .ok (.goto 23, 3) := by decide +kernel
theorem dX8_act_38 : decode cX8_act 38 = .ok (.iload_n 2, 1) := by decide +kernel
theorem dX8_act_39 : decode cX8_act 39 = .ok (.iconst 1, 1) := by decide +kernel
theorem dX8_act_40 : decode cX8_act 40 = .ok (.if_icmp .ne 12, 3) := by decide +kernel
theorem dX8_act_43 : decode cX8_act 43 = .ok (.aload_n 0, 1) := by decide +kernel
theorem dX8_act_44 : decode cX8_act 44 = .ok (.iload_n 1, 1) := by decide +kernel
theorem dX8_act_45 : decode cX8_act 45 = .ok (.iload_n 3, 1) := by decide +kernel
theorem dX8_act_46 : decode cX8_act 46 = .ok (.invokevirtual 351, 3) := by decide +kernel
theorem dX8_act_49 : decode cX8_act 49 = .ok (.goto 9, 3) := by decide +kernel
theorem dX8_act_52 : decode cX8_act 52 = .ok (.aload_n 0, 1) := by decide +kernel
theorem dX8_act_53 : decode cX8_act 53 = .ok (.iload_n 1, 1) := by decide +kernel
theorem dX8_act_54 : decode cX8_act 54 = .ok (.iload_n 3, 1) := by decide +kernel
theorem dX8_act_55 : decode cX8_act 55 = .ok (.invokevirtual 357, 3) := by decide +kernel
theorem dX8_act_58 : decode cX8_act 58 = .ok (.ireturn, 1) := by decide +kernel
theorem oM_act : zok yX8_act 3 := by decide +kernel
theorem dX8_doubtsAct_0 : decode cX8_doubtsAct 0 = .ok (.aload_n 0, 1) := by decide +kernel
theorem dX8_doubtsAct_1 : decode cX8_doubtsAct 1 = .ok (.getfield 16, 3) := by decide +kernel
theorem dX8_doubtsAct_4 : decode cX8_doubtsAct 4 = .ok (.iload_n 1, 1) := by decide +kernel
theorem dX8_doubtsAct_5 : decode cX8_doubtsAct 5 = .ok (.iaload, 1) := by decide +kernel
theorem dX8_doubtsAct_6 : decode cX8_doubtsAct 6 = .ok (.tableswitch 83 2 6 #[34, 83, 49, 34, 63], 34) := by decide +kernel
theorem dX8_doubtsAct_40 : decode cX8_doubtsAct 40 = .ok (.aload_n 0, 1) := by decide +kernel
theorem dX8_doubtsAct_41 : decode cX8_doubtsAct 41 = .ok (.bipush 30, 2) := by decide +kernel
theorem dX8_doubtsAct_43 : decode cX8_doubtsAct 43 = .ok (.invokevirtual 336, 3) := by decide +kernel
theorem dX8_doubtsAct_46 : decode cX8_doubtsAct 46 = .ok (.aload_n 0, 1) := by decide +kernel
theorem dX8_doubtsAct_47 : decode cX8_doubtsAct 47 = .ok (.iload_n 1, 1) := by decide +kernel
theorem dX8_doubtsAct_48 : decode cX8_doubtsAct 48 = .ok (.iload_n 2, 1) := by decide +kernel
theorem dX8_doubtsAct_49 : decode cX8_doubtsAct 49 = .ok (.iconst 3, 1) := by decide +kernel
theorem dX8_doubtsAct_50 : decode cX8_doubtsAct 50 = .ok (.imul, 1) := by decide +kernel
theorem dX8_doubtsAct_51 : decode cX8_doubtsAct 51 = .ok (.invokevirtual 339, 3) := by decide +kernel
theorem dX8_doubtsAct_54 : decode cX8_doubtsAct 54 = .ok (.ireturn, 1) := by decide +kernel
theorem dX8_doubtsAct_55 : decode cX8_doubtsAct 55 = .ok (.aload_n 0, 1) := by decide +kernel
theorem dX8_doubtsAct_56 : decode cX8_doubtsAct 56 = .ok (.bipush 50, 2) := by decide +kernel
theorem dX8_doubtsAct_58 : decode cX8_doubtsAct 58 = .ok (.invokevirtual 336, 3) := by decide +kernel
theorem dX8_doubtsAct_61 : decode cX8_doubtsAct 61 = .ok (.aload_n 0, 1) := by decide +kernel
theorem dX8_doubtsAct_62 : decode cX8_doubtsAct 62 = .ok (.iload_n 1, 1) := by decide +kernel
theorem dX8_doubtsAct_63 : decode cX8_doubtsAct 63 = .ok (.iload_n 2, 1) := by decide +kernel
theorem dX8_doubtsAct_64 : decode cX8_doubtsAct 64 = .ok (.invokevirtual 339, 3) := by decide +kernel
theorem dX8_doubtsAct_67 : decode cX8_doubtsAct 67 = .ok (.ineg, 1) := by decide +kernel
theorem dX8_doubtsAct_68 : decode cX8_doubtsAct 68 = .ok (.ireturn, 1) := by decide +kernel
theorem dX8_doubtsAct_69 : decode cX8_doubtsAct 69 = .ok (.aload_n 0, 1) := by decide +kernel
theorem dX8_doubtsAct_70 : decode cX8_doubtsAct 70 = .ok (.bipush 71, 2) := by decide +kernel
theorem dX8_doubtsAct_72 : decode cX8_doubtsAct 72 = .ok (.invokevirtual 336, 3) := by decide +kernel
theorem dX8_doubtsAct_75 : decode cX8_doubtsAct 75 = .ok (.aload_n 0, 1) := by decide +kernel
theorem dX8_doubtsAct_76 : decode cX8_doubtsAct 76 = .ok (.iload_n 1, 1) := by decide +kernel
theorem dX8_doubtsAct_77 : decode cX8_doubtsAct 77 = .ok (.iload_n 2, 1) := by decide +kernel
theorem dX8_doubtsAct_78 : decode cX8_doubtsAct 78 = .ok (.invokevirtual 339, 3) := by decide +kernel
theorem dX8_doubtsAct_81 : decode cX8_doubtsAct 81 = .ok (.aload_n 0, 1) := by decide +kernel
theorem dX8_doubtsAct_82 : decode cX8_doubtsAct 82 = .ok (.getfield 20, 3) := by decide +kernel
theorem dX8_doubtsAct_85 : decode cX8_doubtsAct 85 = .ok (.iload_n 1, 1) := by decide +kernel
theorem dX8_doubtsAct_86 : decode cX8_doubtsAct 86 = .ok (.iaload, 1) := by decide +kernel
theorem dX8_doubtsAct_87 : decode cX8_doubtsAct 87 = .ok (.ixor, 1) := by decide +kernel
theorem dX8_doubtsAct_88 : decode cX8_doubtsAct 88 = .ok (.ireturn, 1) := by decide +kernel
theorem dX8_doubtsAct_89 : decode cX8_doubtsAct 89 = .ok (.aload_n 0, 1) := by decide +kernel
theorem dX8_doubtsAct_90 : decode cX8_doubtsAct 90 = .ok (.iload_n 1, 1) := by decide +kernel
theorem dX8_doubtsAct_91 : decode cX8_doubtsAct 91 = .ok (.iload_n 2, 1) := by decide +kernel
theorem dX8_doubtsAct_92 : decode cX8_doubtsAct 92 = .ok (.invokevirtual 339, 3) := by decide +kernel
theorem dX8_doubtsAct_95 : decode cX8_doubtsAct 95 = .ok (.ireturn, 1) := by decide +kernel
theorem oM_doubtsAct : zok yX8_doubtsAct 2 := by decide +kernel
theorem dX8_body_0 : decode cX8_body 0 = .ok (.aload_n 0, 1) := by decide +kernel
theorem dX8_body_1 : decode cX8_body 1 = .ok (.getfield 190, 3) := by decide +kernel
theorem dX8_body_4 : decode cX8_body 4 = .ok (.bipush 20, 2) := by decide +kernel
theorem dX8_body_6 : decode cX8_body 6 = .ok (.if_icmp .ge 13, 3) := by decide +kernel
theorem dX8_body_9 : decode cX8_body 9 = .ok (.aload_n 0, 1) := by decide +kernel
theorem dX8_body_10 : decode cX8_body 10 = .ok (.getfield 193, 3) := by decide +kernel
theorem dX8_body_13 : decode cX8_body 13 = .ok (.aload_n 0, 1) := by decide +kernel
theorem dX8_body_14 : decode cX8_body 14 = .ok (.getfield 190, 3) := by decide +kernel
theorem dX8_body_17 : decode cX8_body 17 = .ok (.iload_n 1, 1) := by decide +kernel
theorem dX8_body_18 : decode cX8_body 18 = .ok (.iastore, 1) := by decide +kernel
theorem dX8_body_19 : decode cX8_body 19 = .ok (.aload_n 0, 1) := by decide +kernel
theorem dX8_body_20 : decode cX8_body 20 = .ok (.dup, 1) := by decide +kernel
theorem dX8_body_21 : decode cX8_body 21 = .ok (.getfield 190, 3) := by decide +kernel
theorem dX8_body_24 : decode cX8_body 24 = .ok (.iconst 1, 1) := by decide +kernel
theorem dX8_body_25 : decode cX8_body 25 = .ok (.iadd, 1) := by decide +kernel
theorem dX8_body_26 : decode cX8_body 26 = .ok (.putfield 190, 3) := by decide +kernel
theorem dX8_body_29 : decode cX8_body 29 = .ok (.return_, 1) := by decide +kernel
theorem oM_body : zok yX8_body 1 := by decide +kernel
theorem dX8_guestDoubts_0 : decode cX8_guestDoubts 0 = .ok (.aload_n 0, 1) := by decide +kernel
theorem dX8_guestDoubts_1 : decode cX8_guestDoubts 1 = .ok (.bipush 10, 2) := by decide +kernel
theorem dX8_guestDoubts_3 : decode cX8_guestDoubts 3 = .ok (.invokevirtual 336, 3) := by decide +kernel
theorem dX8_guestDoubts_6 : decode cX8_guestDoubts 6 = .ok (.iload_n 2, 1) := by decide +kernel
theorem dX8_guestDoubts_7 : decode cX8_guestDoubts 7 = .ok (.iload_n 1, 1) := by decide +kernel
theorem dX8_guestDoubts_8 : decode cX8_guestDoubts 8 = .ok (.iadd, 1) := by decide +kernel
theorem dX8_guestDoubts_9 : decode cX8_guestDoubts 9 = .ok (.ireturn, 1) := by decide +kernel
theorem oM_guestDoubts : zok yX8_guestDoubts 2 := by decide +kernel
theorem dX8_guessesAct_0 : decode cX8_guessesAct 0 = .ok (.aload_n 0, 1) := by decide +kernel
theorem dX8_guessesAct_1 : decode cX8_guessesAct 1 = .ok (.getfield 16, 3) := by decide +kernel
theorem dX8_guessesAct_4 : decode cX8_guessesAct 4 = .ok (.iload_n 1, 1) := by decide +kernel
theorem dX8_guessesAct_5 : decode cX8_guessesAct 5 = .ok (.iaload, 1) := by decide +kernel
theorem dX8_guessesAct_6 : decode cX8_guessesAct 6 = .ok (.lookupswitch 78 #[(1, 34), (4, 41), (6, 56)], 34) := by decide +kernel
theorem dX8_guessesAct_40 : decode cX8_guessesAct 40 = .ok (.aload_n 0, 1) := by decide +kernel
theorem dX8_guessesAct_41 : decode cX8_guessesAct 41 = .ok (.iload_n 1, 1) := by decide +kernel
theorem dX8_guessesAct_42 : decode cX8_guessesAct 42 = .ok (.iload_n 2, 1) := by decide +kernel
theorem dX8_guessesAct_43 : decode cX8_guessesAct 43 = .ok (.invokevirtual 348, 3) := by decide +kernel
theorem dX8_guessesAct_46 : decode cX8_guessesAct 46 = .ok (.ireturn, 1) := by decide +kernel
theorem dX8_guessesAct_47 : decode cX8_guessesAct 47 = .ok (.aload_n 0, 1) := by decide +kernel
theorem dX8_guessesAct_48 : decode cX8_guessesAct 48 = .ok (.bipush 51, 2) := by decide +kernel
theorem dX8_guessesAct_50 : decode cX8_guessesAct 50 = .ok (.invokevirtual 336, 3) := by decide +kernel
theorem dX8_guessesAct_53 : decode cX8_guessesAct 53 = .ok (.aload_n 0, 1) := by decide +kernel
theorem dX8_guessesAct_54 : decode cX8_guessesAct 54 = .ok (.iload_n 1, 1) := by decide +kernel
theorem dX8_guessesAct_55 : decode cX8_guessesAct 55 = .ok (.iload_n 2, 1) := by decide +kernel
theorem dX8_guessesAct_56 : decode cX8_guessesAct 56 = .ok (.iconst 1, 1) := by decide +kernel
theorem dX8_guessesAct_57 : decode cX8_guessesAct 57 = .ok (.iadd, 1) := by decide +kernel
theorem dX8_guessesAct_58 : decode cX8_guessesAct 58 = .ok (.invokevirtual 348, 3) := by decide +kernel
theorem dX8_guessesAct_61 : decode cX8_guessesAct 61 = .ok (.ireturn, 1) := by decide +kernel
theorem dX8_guessesAct_62 : decode cX8_guessesAct 62 = .ok (.aload_n 0, 1) := by decide +kernel
theorem dX8_guessesAct_63 : decode cX8_guessesAct 63 = .ok (.bipush 70, 2) := by decide +kernel
theorem dX8_guessesAct_65 : decode cX8_guessesAct 65 = .ok (.invokevirtual 336, 3) := by decide +kernel
theorem dX8_guessesAct_68 : decode cX8_guessesAct 68 = .ok (.aload_n 0, 1) := by decide +kernel
theorem dX8_guessesAct_69 : decode cX8_guessesAct 69 = .ok (.iload_n 1, 1) := by decide +kernel
theorem dX8_guessesAct_70 : decode cX8_guessesAct 70 = .ok (.iload_n 2, 1) := by decide +kernel
theorem dX8_guessesAct_71 : decode cX8_guessesAct 71 = .ok (.invokevirtual 345, 3) := by decide +kernel
theorem dX8_guessesAct_74 : decode cX8_guessesAct 74 = .ok (.istore_n 3, 1) := by decide +kernel
theorem dX8_guessesAct_75 : decode cX8_guessesAct 75 = .ok (.iload_n 3, 1) := by decide +kernel
theorem dX8_guessesAct_76 : decode cX8_guessesAct 76 = .ok (.aload_n 0, 1) := by decide +kernel
theorem dX8_guessesAct_77 : decode cX8_guessesAct 77 = .ok (.iload_n 1, 1) := by decide +kernel
theorem dX8_guessesAct_78 : decode cX8_guessesAct 78 = .ok (.iconst 2, 1) := by decide +kernel
theorem dX8_guessesAct_79 : decode cX8_guessesAct 79 = .ok (.invokevirtual 339, 3) := by decide +kernel
theorem dX8_guessesAct_82 : decode cX8_guessesAct 82 = .ok (.iadd, 1) := by decide +kernel
theorem dX8_guessesAct_83 : decode cX8_guessesAct 83 = .ok (.ireturn, 1) := by decide +kernel
theorem dX8_guessesAct_84 : decode cX8_guessesAct 84 = .ok (.aload_n 0, 1) := by decide +kernel
theorem dX8_guessesAct_85 : decode cX8_guessesAct 85 = .ok (.iload_n 1, 1) := by decide +kernel
theorem dX8_guessesAct_86 : decode cX8_guessesAct 86 = .ok (.iload_n 2, 1) := by decide +kernel
theorem dX8_guessesAct_87 : decode cX8_guessesAct 87 = .ok (.invokevirtual 345, 3) := by decide +kernel
theorem dX8_guessesAct_90 : decode cX8_guessesAct 90 = .ok (.ireturn, 1) := by decide +kernel
theorem oM_guessesAct : zok yX8_guessesAct 2 := by decide +kernel
theorem dX8_readerGuesses_0 : decode cX8_readerGuesses 0 = .ok (.aload_n 0, 1) := by decide +kernel
theorem dX8_readerGuesses_1 : decode cX8_readerGuesses 1 = .ok (.bipush 20, 2) := by decide +kernel
theorem dX8_readerGuesses_3 : decode cX8_readerGuesses 3 = .ok (.invokevirtual 336, 3) := by decide +kernel
theorem dX8_readerGuesses_6 : decode cX8_readerGuesses 6 = .ok (.aload_n 0, 1) := by decide +kernel
theorem dX8_readerGuesses_7 : decode cX8_readerGuesses 7 = .ok (.iload_n 1, 1) := by decide +kernel
theorem dX8_readerGuesses_8 : decode cX8_readerGuesses 8 = .ok (.iload_n 2, 1) := by decide +kernel
theorem dX8_readerGuesses_9 : decode cX8_readerGuesses 9 = .ok (.invokevirtual 345, 3) := by decide +kernel
theorem dX8_readerGuesses_12 : decode cX8_readerGuesses 12 = .ok (.bipush 6, 2) := by decide +kernel
theorem dX8_readerGuesses_14 : decode cX8_readerGuesses 14 = .ok (.ixor, 1) := by decide +kernel
theorem dX8_readerGuesses_15 : decode cX8_readerGuesses 15 = .ok (.ireturn, 1) := by decide +kernel
theorem oM_readerGuesses : zok yX8_readerGuesses 2 := by decide +kernel
theorem dX8_guestGuesses_0 : decode cX8_guestGuesses 0 = .ok (.aload_n 0, 1) := by decide +kernel
theorem dX8_guestGuesses_1 : decode cX8_guestGuesses 1 = .ok (.bipush 11, 2) := by decide +kernel
theorem dX8_guestGuesses_3 : decode cX8_guestGuesses 3 = .ok (.invokevirtual 336, 3) := by decide +kernel
theorem dX8_guestGuesses_6 : decode cX8_guestGuesses 6 = .ok (.aload_n 0, 1) := by decide +kernel
theorem dX8_guestGuesses_7 : decode cX8_guestGuesses 7 = .ok (.iload_n 1, 1) := by decide +kernel
theorem dX8_guestGuesses_8 : decode cX8_guestGuesses 8 = .ok (.iload_n 2, 1) := by decide +kernel
theorem dX8_guestGuesses_9 : decode cX8_guestGuesses 9 = .ok (.invokevirtual 342, 3) := by decide +kernel
theorem dX8_guestGuesses_12 : decode cX8_guestGuesses 12 = .ok (.aload_n 0, 1) := by decide +kernel
theorem dX8_guestGuesses_13 : decode cX8_guestGuesses 13 = .ok (.getfield 20, 3) := by decide +kernel
theorem dX8_guestGuesses_16 : decode cX8_guestGuesses 16 = .ok (.iload_n 1, 1) := by decide +kernel
theorem dX8_guestGuesses_17 : decode cX8_guestGuesses 17 = .ok (.iaload, 1) := by decide +kernel
theorem dX8_guestGuesses_18 : decode cX8_guestGuesses 18 = .ok (.isub, 1) := by decide +kernel
theorem dX8_guestGuesses_19 : decode cX8_guestGuesses 19 = .ok (.ireturn, 1) := by decide +kernel
theorem oM_guestGuesses : zok yX8_guestGuesses 2 := by decide +kernel
theorem dX8_tellsAct_0 : decode cX8_tellsAct 0 = .ok (.aload_n 0, 1) := by decide +kernel
theorem dX8_tellsAct_1 : decode cX8_tellsAct 1 = .ok (.getfield 16, 3) := by decide +kernel
theorem dX8_tellsAct_4 : decode cX8_tellsAct 4 = .ok (.iload_n 1, 1) := by decide +kernel
theorem dX8_tellsAct_5 : decode cX8_tellsAct 5 = .ok (.iaload, 1) := by decide +kernel
theorem dX8_tellsAct_6 : decode cX8_tellsAct 6 = .ok (.tableswitch 67 3 6 #[30, 67, 52, 30], 30) := by decide +kernel
theorem dX8_tellsAct_36 : decode cX8_tellsAct 36 = .ok (.aload_n 0, 1) := by decide +kernel
theorem dX8_tellsAct_37 : decode cX8_tellsAct 37 = .ok (.bipush 40, 2) := by decide +kernel
theorem dX8_tellsAct_39 : decode cX8_tellsAct 39 = .ok (.invokevirtual 336, 3) := by decide +kernel
theorem dX8_tellsAct_42 : decode cX8_tellsAct 42 = .ok (.aload_n 0, 1) := by decide +kernel
theorem dX8_tellsAct_43 : decode cX8_tellsAct 43 = .ok (.iload_n 1, 1) := by decide +kernel
theorem dX8_tellsAct_44 : decode cX8_tellsAct 44 = .ok (.iload_n 2, 1) := by decide +kernel
theorem dX8_tellsAct_45 : decode cX8_tellsAct 45 = .ok (.invokevirtual 354, 3) := by decide +kernel
theorem dX8_tellsAct_48 : decode cX8_tellsAct 48 = .ok (.istore_n 3, 1) := by decide +kernel
theorem dX8_tellsAct_49 : decode cX8_tellsAct 49 = .ok (.iload_n 3, 1) := by decide +kernel
theorem dX8_tellsAct_50 : decode cX8_tellsAct 50 = .ok (.aload_n 0, 1) := by decide +kernel
theorem dX8_tellsAct_51 : decode cX8_tellsAct 51 = .ok (.iload_n 1, 1) := by decide +kernel
theorem dX8_tellsAct_52 : decode cX8_tellsAct 52 = .ok (.iconst 1, 1) := by decide +kernel
theorem dX8_tellsAct_53 : decode cX8_tellsAct 53 = .ok (.invokevirtual 351, 3) := by decide +kernel
theorem dX8_tellsAct_56 : decode cX8_tellsAct 56 = .ok (.iadd, 1) := by decide +kernel
theorem dX8_tellsAct_57 : decode cX8_tellsAct 57 = .ok (.ireturn, 1) := by decide +kernel
theorem dX8_tellsAct_58 : decode cX8_tellsAct 58 = .ok (.aload_n 0, 1) := by decide +kernel
theorem dX8_tellsAct_59 : decode cX8_tellsAct 59 = .ok (.bipush 60, 2) := by decide +kernel
theorem dX8_tellsAct_61 : decode cX8_tellsAct 61 = .ok (.invokevirtual 336, 3) := by decide +kernel
theorem dX8_tellsAct_64 : decode cX8_tellsAct 64 = .ok (.aload_n 0, 1) := by decide +kernel
theorem dX8_tellsAct_65 : decode cX8_tellsAct 65 = .ok (.iload_n 1, 1) := by decide +kernel
theorem dX8_tellsAct_66 : decode cX8_tellsAct 66 = .ok (.iload_n 2, 1) := by decide +kernel
theorem dX8_tellsAct_67 : decode cX8_tellsAct 67 = .ok (.iload_n 1, 1) := by decide +kernel
theorem dX8_tellsAct_68 : decode cX8_tellsAct 68 = .ok (.isub, 1) := by decide +kernel
theorem dX8_tellsAct_69 : decode cX8_tellsAct 69 = .ok (.invokevirtual 354, 3) := by decide +kernel
theorem dX8_tellsAct_72 : decode cX8_tellsAct 72 = .ok (.ireturn, 1) := by decide +kernel
theorem dX8_tellsAct_73 : decode cX8_tellsAct 73 = .ok (.aload_n 0, 1) := by decide +kernel
theorem dX8_tellsAct_74 : decode cX8_tellsAct 74 = .ok (.iload_n 1, 1) := by decide +kernel
theorem dX8_tellsAct_75 : decode cX8_tellsAct 75 = .ok (.iload_n 2, 1) := by decide +kernel
theorem dX8_tellsAct_76 : decode cX8_tellsAct 76 = .ok (.invokevirtual 354, 3) := by decide +kernel
theorem dX8_tellsAct_79 : decode cX8_tellsAct 79 = .ok (.ireturn, 1) := by decide +kernel
theorem oM_tellsAct : zok yX8_tellsAct 2 := by decide +kernel
theorem dX8_guestTells_0 : decode cX8_guestTells 0 = .ok (.aload_n 0, 1) := by decide +kernel
theorem dX8_guestTells_1 : decode cX8_guestTells 1 = .ok (.bipush 12, 2) := by decide +kernel
theorem dX8_guestTells_3 : decode cX8_guestTells 3 = .ok (.invokevirtual 336, 3) := by decide +kernel
theorem dX8_guestTells_6 : decode cX8_guestTells 6 = .ok (.aload_n 0, 1) := by decide +kernel
theorem dX8_guestTells_7 : decode cX8_guestTells 7 = .ok (.iload_n 1, 1) := by decide +kernel
theorem dX8_guestTells_8 : decode cX8_guestTells 8 = .ok (.iload_n 2, 1) := by decide +kernel
theorem dX8_guestTells_9 : decode cX8_guestTells 9 = .ok (.invokevirtual 351, 3) := by decide +kernel
theorem dX8_guestTells_12 : decode cX8_guestTells 12 = .ok (.iconst 2, 1) := by decide +kernel
theorem dX8_guestTells_13 : decode cX8_guestTells 13 = .ok (.imul, 1) := by decide +kernel
theorem dX8_guestTells_14 : decode cX8_guestTells 14 = .ok (.ireturn, 1) := by decide +kernel
theorem oM_guestTells : zok yX8_guestTells 2 := by decide +kernel
theorem dX8_trace_0 : decode cX8_trace 0 = .ok (.aload_n 0, 1) := by decide +kernel
theorem dX8_trace_1 : decode cX8_trace 1 = .ok (.iload_n 1, 1) := by decide +kernel
theorem dX8_trace_2 : decode cX8_trace 2 = .ok (.iconst 0, 1) := by decide +kernel
theorem dX8_trace_3 : decode cX8_trace 3 = .ok (.bipush 19, 2) := by decide +kernel
theorem dX8_trace_5 : decode cX8_trace 5 = .ok (.invokevirtual 209, 3) := by decide +kernel
theorem dX8_trace_8 : decode cX8_trace 8 = .ok (.ifCond .eq 20, 3) := by decide +kernel
theorem dX8_trace_11 : decode cX8_trace 11 = .ok (.iload_n 1, 1) := by decide +kernel
theorem dX8_trace_12 : decode cX8_trace 12 = .ok (.aload_n 0, 1) := by decide +kernel
theorem dX8_trace_13 : decode cX8_trace 13 = .ok (.getfield 190, 3) := by decide +kernel
theorem dX8_trace_16 : decode cX8_trace 16 = .ok (.if_icmp .ge 12, 3) := by decide +kernel
theorem dX8_trace_19 : decode cX8_trace 19 = .ok (.aload_n 0, 1) := by decide +kernel
theorem dX8_trace_20 : decode cX8_trace 20 = .ok (.getfield 193, 3) := by decide +kernel
theorem dX8_trace_23 : decode cX8_trace 23 = .ok (.iload_n 1, 1) := by decide +kernel
theorem dX8_trace_24 : decode cX8_trace 24 = .ok (.iaload, 1) := by decide +kernel
theorem dX8_trace_25 : decode cX8_trace 25 = .ok (.goto 4, 3) := by decide +kernel
theorem dX8_trace_28 : decode cX8_trace 28 = .ok (.iconst (-1), 1) := by decide +kernel
theorem dX8_trace_29 : decode cX8_trace 29 = .ok (.ireturn, 1) := by decide +kernel
theorem oM_trace : zok yX8_trace 1 := by decide +kernel
theorem dX8_taken_0 : decode cX8_taken 0 = .ok (.aload_n 0, 1) := by decide +kernel
theorem dX8_taken_1 : decode cX8_taken 1 = .ok (.iload_n 2, 1) := by decide +kernel
theorem dX8_taken_2 : decode cX8_taken 2 = .ok (.iconst 0, 1) := by decide +kernel
theorem dX8_taken_3 : decode cX8_taken 3 = .ok (.bipush 6, 2) := by decide +kernel
theorem dX8_taken_5 : decode cX8_taken 5 = .ok (.invokevirtual 209, 3) := by decide +kernel
theorem dX8_taken_8 : decode cX8_taken 8 = .ok (.ifCond .ne 6, 3) := by decide +kernel
theorem dX8_taken_11 : decode cX8_taken 11 = .ok (.bipush (-2), 2) := by decide +kernel
theorem dX8_taken_13 : decode cX8_taken 13 = .ok (.ireturn, 1) := by decide +kernel
theorem dX8_taken_14 : decode cX8_taken 14 = .ok (.aload_n 0, 1) := by decide +kernel
theorem dX8_taken_15 : decode cX8_taken 15 = .ok (.iload_n 1, 1) := by decide +kernel
theorem dX8_taken_16 : decode cX8_taken 16 = .ok (.invokevirtual 213, 3) := by decide +kernel
theorem dX8_taken_19 : decode cX8_taken 19 = .ok (.ifCond .ne 6, 3) := by decide +kernel
theorem dX8_taken_22 : decode cX8_taken 22 = .ok (.bipush (-11), 2) := by decide +kernel
theorem dX8_taken_24 : decode cX8_taken 24 = .ok (.ireturn, 1) := by decide +kernel
theorem dX8_taken_25 : decode cX8_taken 25 = .ok (.aload_n 0, 1) := by decide +kernel
theorem dX8_taken_26 : decode cX8_taken 26 = .ok (.getfield 16, 3) := by decide +kernel
theorem dX8_taken_29 : decode cX8_taken 29 = .ok (.iload_n 1, 1) := by decide +kernel
theorem dX8_taken_30 : decode cX8_taken 30 = .ok (.iaload, 1) := by decide +kernel
theorem dX8_taken_31 : decode cX8_taken 31 = .ok (.istore_n 3, 1) := by decide +kernel
theorem dX8_taken_32 : decode cX8_taken 32 = .ok (.iload_n 2, 1) := by decide +kernel
theorem dX8_taken_33 : decode cX8_taken 33 = .ok (.ifCond .eq 39, 3) := by decide +kernel
theorem dX8_taken_36 : decode cX8_taken 36 = .ok (.iload_n 3, 1) := by decide +kernel
theorem dX8_taken_37 : decode cX8_taken 37 = .ok (.iload_n 2, 1) := by decide +kernel
theorem dX8_taken_38 : decode cX8_taken 38 = .ok (.if_icmp .eq 34, 3) := by decide +kernel
theorem dX8_taken_41 : decode cX8_taken 41 = .ok (.iload_n 2, 1) := by decide +kernel
theorem dX8_taken_42 : decode cX8_taken 42 = .ok (.iconst 1, 1) := by decide +kernel
theorem dX8_taken_43 : decode cX8_taken 43 = .ok (.if_icmp .ne 8, 3) := by decide +kernel
theorem dX8_taken_46 : decode cX8_taken 46 = .ok (.iload_n 3, 1) := by decide +kernel
theorem dX8_taken_47 : decode cX8_taken 47 = .ok (.iconst 4, 1) := by decide +kernel
theorem dX8_taken_48 : decode cX8_taken 48 = .ok (.if_icmp .eq 24, 3) := by decide +kernel
theorem dX8_taken_51 : decode cX8_taken 51 = .ok (.iload_n 2, 1) := by decide +kernel
theorem dX8_taken_52 : decode cX8_taken 52 = .ok (.iconst 2, 1) := by decide +kernel
theorem dX8_taken_53 : decode cX8_taken 53 = .ok (.if_icmp .ne 8, 3) := by decide +kernel
theorem dX8_taken_56 : decode cX8_taken 56 = .ok (.iload_n 3, 1) := by decide +kernel
theorem dX8_taken_57 : decode cX8_taken 57 = .ok (.iconst 5, 1) := by decide +kernel
theorem dX8_taken_58 : decode cX8_taken 58 = .ok (.if_icmp .eq 14, 3) := by decide +kernel
theorem dX8_taken_61 : decode cX8_taken 61 = .ok (.iload_n 2, 1) := by decide +kernel
theorem dX8_taken_62 : decode cX8_taken 62 = .ok (.iconst 3, 1) := by decide +kernel
theorem dX8_taken_63 : decode cX8_taken 63 = .ok (.if_icmp .ne 13, 3) := by decide +kernel
theorem dX8_taken_66 : decode cX8_taken 66 = .ok (.iload_n 3, 1) := by decide +kernel
theorem dX8_taken_67 : decode cX8_taken 67 = .ok (.bipush 6, 2) := by decide +kernel
theorem dX8_taken_69 : decode cX8_taken 69 = .ok (.if_icmp .ne 7, 3) := by decide +kernel
theorem dX8_taken_72 : decode cX8_taken 72 = .ok (.iload_n 3, 1) := by decide +kernel
theorem dX8_taken_73 : decode cX8_taken 73 = .ok (.goto 5, 3) := by decide +kernel
theorem dX8_taken_76 : decode cX8_taken 76 = .ok (.bipush (-12), 2) := by decide +kernel
theorem dX8_taken_78 : decode cX8_taken 78 = .ok (.ireturn, 1) := by decide +kernel
theorem oM_taken : zok yX8_taken 2 := by decide +kernel
theorem dX8_count_0 : decode cX8_count 0 = .ok (.iload_n 1, 1) := by decide +kernel
theorem dX8_count_1 : decode cX8_count 1 = .ok (.tableswitch 60 0 4 #[35, 40, 45, 50, 55], 35) := by decide +kernel
theorem dX8_count_36 : decode cX8_count 36 = .ok (.aload_n 0, 1) := by decide +kernel
theorem dX8_count_37 : decode cX8_count 37 = .ok (.getfield 7, 3) := by decide +kernel
theorem dX8_count_40 : decode cX8_count 40 = .ok (.ireturn, 1) := by decide +kernel
theorem dX8_count_41 : decode cX8_count 41 = .ok (.aload_n 0, 1) := by decide +kernel
theorem dX8_count_42 : decode cX8_count 42 = .ok (.getfield 41, 3) := by decide +kernel
theorem dX8_count_45 : decode cX8_count 45 = .ok (.ireturn, 1) := by decide +kernel
theorem dX8_count_46 : decode cX8_count 46 = .ok (.aload_n 0, 1) := by decide +kernel
theorem dX8_count_47 : decode cX8_count 47 = .ok (.getfield 126, 3) := by decide +kernel
theorem dX8_count_50 : decode cX8_count 50 = .ok (.ireturn, 1) := by decide +kernel
theorem dX8_count_51 : decode cX8_count 51 = .ok (.aload_n 0, 1) := by decide +kernel
theorem dX8_count_52 : decode cX8_count 52 = .ok (.getfield 47, 3) := by decide +kernel
theorem dX8_count_55 : decode cX8_count 55 = .ok (.ireturn, 1) := by decide +kernel
theorem dX8_count_56 : decode cX8_count 56 = .ok (.aload_n 0, 1) := by decide +kernel
theorem dX8_count_57 : decode cX8_count 57 = .ok (.getfield 190, 3) := by decide +kernel
theorem dX8_count_60 : decode cX8_count 60 = .ok (.ireturn, 1) := by decide +kernel
theorem dX8_count_61 : decode cX8_count 61 = .ok (.bipush (-2), 2) := by decide +kernel
theorem dX8_count_63 : decode cX8_count 63 = .ok (.ireturn, 1) := by decide +kernel
theorem oM_count : zok yX8_count 1 := by decide +kernel
theorem dX8_tape_0 : decode cX8_tape 0 = .ok (.aload_n 0, 1) := by decide +kernel
theorem dX8_tape_1 : decode cX8_tape 1 = .ok (.iload_n 1, 1) := by decide +kernel
theorem dX8_tape_2 : decode cX8_tape 2 = .ok (.invokevirtual 333, 3) := by decide +kernel
theorem dX8_tape_5 : decode cX8_tape 5 = .ok (.ifCond .ne 5, 3) := by decide +kernel
theorem dX8_tape_8 : decode cX8_tape 8 = .ok (.iconst (-1), 1) := by decide +kernel
theorem dX8_tape_9 : decode cX8_tape 9 = .ok (.ireturn, 1) := by decide +kernel
theorem dX8_tape_10 : decode cX8_tape 10 = .ok (.aload_n 0, 1) := by decide +kernel
theorem dX8_tape_11 : decode cX8_tape 11 = .ok (.iload_n 2, 1) := by decide +kernel
theorem dX8_tape_12 : decode cX8_tape 12 = .ok (.iconst (-1), 1) := by decide +kernel
theorem dX8_tape_13 : decode cX8_tape 13 = .ok (.iconst 4, 1) := by decide +kernel
theorem dX8_tape_14 : decode cX8_tape 14 = .ok (.invokevirtual 209, 3) := by decide +kernel
theorem dX8_tape_17 : decode cX8_tape 17 = .ok (.ifCond .eq 13, 3) := by decide +kernel
theorem dX8_tape_20 : decode cX8_tape 20 = .ok (.iload_n 2, 1) := by decide +kernel
theorem dX8_tape_21 : decode cX8_tape 21 = .ok (.ifCond .lt 12, 3) := by decide +kernel
theorem dX8_tape_24 : decode cX8_tape 24 = .ok (.iload_n 3, 1) := by decide +kernel
theorem dX8_tape_25 : decode cX8_tape 25 = .ok (.bipush 60, 2) := by decide +kernel
theorem dX8_tape_27 : decode cX8_tape 27 = .ok (.if_icmp .le 6, 3) := by decide +kernel
theorem dX8_tape_30 : decode cX8_tape 30 = .ok (.bipush (-2), 2) := by decide +kernel
theorem dX8_tape_32 : decode cX8_tape 32 = .ok (.ireturn, 1) := by decide +kernel
theorem dX8_tape_33 : decode cX8_tape 33 = .ok (.iload_n 2, 1) := by decide +kernel
theorem dX8_tape_34 : decode cX8_tape 34 = .ok (.ifCond .lt 10, 3) := by decide +kernel
theorem dX8_tape_37 : decode cX8_tape 37 = .ok (.iload_n 3, 1) := by decide +kernel
theorem dX8_tape_38 : decode cX8_tape 38 = .ok (.ifCond .ge 6, 3) := by decide +kernel
theorem dX8_tape_41 : decode cX8_tape 41 = .ok (.bipush (-14), 2) := by decide +kernel
theorem dX8_tape_43 : decode cX8_tape 43 = .ok (.ireturn, 1) := by decide +kernel
theorem dX8_tape_44 : decode cX8_tape 44 = .ok (.aload_n 0, 1) := by decide +kernel
theorem dX8_tape_45 : decode cX8_tape 45 = .ok (.getfield 196, 3) := by decide +kernel
theorem dX8_tape_48 : decode cX8_tape 48 = .ok (.iload_n 1, 1) := by decide +kernel
theorem dX8_tape_49 : decode cX8_tape 49 = .ok (.iload_n 2, 1) := by decide +kernel
theorem dX8_tape_50 : decode cX8_tape 50 = .ok (.iastore, 1) := by decide +kernel
theorem dX8_tape_51 : decode cX8_tape 51 = .ok (.aload_n 0, 1) := by decide +kernel
theorem dX8_tape_52 : decode cX8_tape 52 = .ok (.getfield 199, 3) := by decide +kernel
theorem dX8_tape_55 : decode cX8_tape 55 = .ok (.iload_n 1, 1) := by decide +kernel
theorem dX8_tape_56 : decode cX8_tape 56 = .ok (.iload_n 2, 1) := by decide +kernel
theorem dX8_tape_57 : decode cX8_tape 57 = .ok (.ifCond .ge 7, 3) := by decide +kernel
theorem dX8_tape_60 : decode cX8_tape 60 = .ok (.iconst 0, 1) := by decide +kernel
theorem dX8_tape_61 : decode cX8_tape 61 = .ok (.goto 4, 3) := by decide +kernel
theorem dX8_tape_64 : decode cX8_tape 64 = .ok (.iload_n 3, 1) := by decide +kernel
theorem dX8_tape_65 : decode cX8_tape 65 = .ok (.iastore, 1) := by decide +kernel
theorem dX8_tape_66 : decode cX8_tape 66 = .ok (.iconst 0, 1) := by decide +kernel
theorem dX8_tape_67 : decode cX8_tape 67 = .ok (.istore 4, 2) := by decide +kernel
theorem dX8_tape_69 : decode cX8_tape 69 = .ok (.iload 4, 2) := by decide +kernel
theorem dX8_tape_71 : decode cX8_tape 71 = .ok (.bipush 60, 2) := by decide +kernel
theorem dX8_tape_73 : decode cX8_tape 73 = .ok (.if_icmp .ge 22, 3) := by decide +kernel
theorem dX8_tape_76 : decode cX8_tape 76 = .ok (.aload_n 0, 1) := by decide +kernel
theorem dX8_tape_77 : decode cX8_tape 77 = .ok (.getfield 202, 3) := by decide +kernel
theorem dX8_tape_80 : decode cX8_tape 80 = .ok (.bipush 60, 2) := by decide +kernel
theorem dX8_tape_82 : decode cX8_tape 82 = .ok (.iload_n 1, 1) := by decide +kernel
theorem dX8_tape_83 : decode cX8_tape 83 = .ok (.imul, 1) := by decide +kernel
theorem dX8_tape_84 : decode cX8_tape 84 = .ok (.iload 4, 2) := by decide +kernel
theorem dX8_tape_86 : decode cX8_tape 86 = .ok (.iadd, 1) := by decide +kernel
theorem dX8_tape_87 : decode cX8_tape 87 = .ok (.lconst 0, 1) := by decide +kernel
theorem dX8_tape_88 : decode cX8_tape 88 = .ok (.lastore, 1) := by decide +kernel
theorem dX8_tape_89 : decode cX8_tape 89 = .ok (.iinc 4 1, 3) := by decide +kernel
theorem dX8_tape_92 : decode cX8_tape 92 = .ok (.goto (-23), 3) := by decide +kernel
theorem dX8_tape_95 : decode cX8_tape 95 = .ok (.iconst 1, 1) := by decide +kernel
theorem dX8_tape_96 : decode cX8_tape 96 = .ok (.ireturn, 1) := by decide +kernel
theorem oM_tape : zok yX8_tape 3 := by decide +kernel
theorem dX8_item_0 : decode cX8_item 0 = .ok (.aload_n 0, 1) := by decide +kernel
theorem dX8_item_1 : decode cX8_item 1 = .ok (.iload_n 1, 1) := by decide +kernel
theorem dX8_item_2 : decode cX8_item 2 = .ok (.invokevirtual 333, 3) := by decide +kernel
theorem dX8_item_5 : decode cX8_item 5 = .ok (.ifCond .ne 5, 3) := by decide +kernel
theorem dX8_item_8 : decode cX8_item 8 = .ok (.iconst (-1), 1) := by decide +kernel
theorem dX8_item_9 : decode cX8_item 9 = .ok (.ireturn, 1) := by decide +kernel
theorem dX8_item_10 : decode cX8_item 10 = .ok (.aload_n 0, 1) := by decide +kernel
theorem dX8_item_11 : decode cX8_item 11 = .ok (.getfield 196, 3) := by decide +kernel
theorem dX8_item_14 : decode cX8_item 14 = .ok (.iload_n 1, 1) := by decide +kernel
theorem dX8_item_15 : decode cX8_item 15 = .ok (.iaload, 1) := by decide +kernel
theorem dX8_item_16 : decode cX8_item 16 = .ok (.ifCond .ge 6, 3) := by decide +kernel
theorem dX8_item_19 : decode cX8_item 19 = .ok (.bipush (-11), 2) := by decide +kernel
theorem dX8_item_21 : decode cX8_item 21 = .ok (.ireturn, 1) := by decide +kernel
theorem dX8_item_22 : decode cX8_item 22 = .ok (.aload_n 0, 1) := by decide +kernel
theorem dX8_item_23 : decode cX8_item 23 = .ok (.iload_n 2, 1) := by decide +kernel
theorem dX8_item_24 : decode cX8_item 24 = .ok (.iconst 0, 1) := by decide +kernel
theorem dX8_item_25 : decode cX8_item 25 = .ok (.aload_n 0, 1) := by decide +kernel
theorem dX8_item_26 : decode cX8_item 26 = .ok (.getfield 199, 3) := by decide +kernel
theorem dX8_item_29 : decode cX8_item 29 = .ok (.iload_n 1, 1) := by decide +kernel
theorem dX8_item_30 : decode cX8_item 30 = .ok (.iaload, 1) := by decide +kernel
theorem dX8_item_31 : decode cX8_item 31 = .ok (.iconst 1, 1) := by decide +kernel
theorem dX8_item_32 : decode cX8_item 32 = .ok (.isub, 1) := by decide +kernel
theorem dX8_item_33 : decode cX8_item 33 = .ok (.invokevirtual 209, 3) := by decide +kernel
theorem dX8_item_36 : decode cX8_item 36 = .ok (.ifCond .ne 6, 3) := by decide +kernel
theorem dX8_item_39 : decode cX8_item 39 = .ok (.bipush (-13), 2) := by decide +kernel
theorem dX8_item_41 : decode cX8_item 41 = .ok (.ireturn, 1) := by decide +kernel
theorem dX8_item_42 : decode cX8_item 42 = .ok (.aload_n 0, 1) := by decide +kernel
theorem dX8_item_43 : decode cX8_item 43 = .ok (.getfield 202, 3) := by decide +kernel
theorem dX8_item_46 : decode cX8_item 46 = .ok (.bipush 60, 2) := by decide +kernel
theorem dX8_item_48 : decode cX8_item 48 = .ok (.iload_n 1, 1) := by decide +kernel
theorem dX8_item_49 : decode cX8_item 49 = .ok (.imul, 1) := by decide +kernel
theorem dX8_item_50 : decode cX8_item 50 = .ok (.iload_n 2, 1) := by decide +kernel
theorem dX8_item_51 : decode cX8_item 51 = .ok (.iadd, 1) := by decide +kernel
theorem dX8_item_52 : decode cX8_item 52 = .ok (.aload_n 0, 1) := by decide +kernel
theorem dX8_item_53 : decode cX8_item 53 = .ok (.aload_n 0, 1) := by decide +kernel
theorem dX8_item_54 : decode cX8_item 54 = .ok (.getfield 196, 3) := by decide +kernel
theorem dX8_item_57 : decode cX8_item 57 = .ok (.iload_n 1, 1) := by decide +kernel
theorem dX8_item_58 : decode cX8_item 58 = .ok (.iaload, 1) := by decide +kernel
theorem dX8_item_59 : decode cX8_item 59 = .ok (.lload_n 3, 1) := by decide +kernel
theorem dX8_item_60 : decode cX8_item 60 = .ok (.invokevirtual 360, 3) := by decide +kernel
theorem dX8_item_63 : decode cX8_item 63 = .ok (.lastore, 1) := by decide +kernel
theorem dX8_item_64 : decode cX8_item 64 = .ok (.iconst 1, 1) := by decide +kernel
theorem dX8_item_65 : decode cX8_item 65 = .ok (.ireturn, 1) := by decide +kernel
theorem oM_item : zok yX8_item 3 := by decide +kernel
theorem dX8_narrow_0 : decode cX8_narrow 0 = .ok (.iload_n 1, 1) := by decide +kernel
theorem dX8_narrow_1 : decode cX8_narrow 1 = .ok (.ifCond .ne 10, 3) := by decide +kernel
theorem dX8_narrow_4 : decode cX8_narrow 4 = .ok (.lload_n 2, 1) := by decide +kernel
theorem dX8_narrow_5 : decode cX8_narrow 5 = .ok (.l2i, 1) := by decide +kernel
theorem dX8_narrow_6 : decode cX8_narrow 6 = .ok (.i2b, 1) := by decide +kernel
theorem dX8_narrow_7 : decode cX8_narrow 7 = .ok (.i2l, 1) := by decide +kernel
theorem dX8_narrow_8 : decode cX8_narrow 8 = .ok (.goto 46, 3) := by decide +kernel
theorem dX8_narrow_11 : decode cX8_narrow 11 = .ok (.iload_n 1, 1) := by decide +kernel
theorem dX8_narrow_12 : decode cX8_narrow 12 = .ok (.iconst 1, 1) := by decide +kernel
theorem dX8_narrow_13 : decode cX8_narrow 13 = .ok (.if_icmp .ne 10, 3) := by decide +kernel
theorem dX8_narrow_16 : decode cX8_narrow 16 = .ok (.lload_n 2, 1) := by decide +kernel
theorem dX8_narrow_17 : decode cX8_narrow 17 = .ok (.l2i, 1) := by decide +kernel
theorem dX8_narrow_18 : decode cX8_narrow 18 = .ok (.i2s, 1) := by decide +kernel
theorem dX8_narrow_19 : decode cX8_narrow 19 = .ok (.i2l, 1) := by decide +kernel
theorem dX8_narrow_20 : decode cX8_narrow 20 = .ok (.goto 34, 3) := by decide +kernel
theorem dX8_narrow_23 : decode cX8_narrow 23 = .ok (.iload_n 1, 1) := by decide +kernel
theorem dX8_narrow_24 : decode cX8_narrow 24 = .ok (.iconst 2, 1) := by decide +kernel
theorem dX8_narrow_25 : decode cX8_narrow 25 = .ok (.if_icmp .ne 9, 3) := by decide +kernel
theorem dX8_narrow_28 : decode cX8_narrow 28 = .ok (.lload_n 2, 1) := by decide +kernel
theorem dX8_narrow_29 : decode cX8_narrow 29 = .ok (.l2i, 1) := by decide +kernel
theorem dX8_narrow_30 : decode cX8_narrow 30 = .ok (.i2l, 1) := by decide +kernel
theorem dX8_narrow_31 : decode cX8_narrow 31 = .ok (.goto 23, 3) := by decide +kernel
theorem dX8_narrow_34 : decode cX8_narrow 34 = .ok (.iload_n 1, 1) := by decide +kernel
theorem dX8_narrow_35 : decode cX8_narrow 35 = .ok (.iconst 4, 1) := by decide +kernel
theorem dX8_narrow_36 : decode cX8_narrow 36 = .ok (.if_icmp .ne 17, 3) := by decide +kernel
theorem dX8_narrow_39 : decode cX8_narrow 39 = .ok (.lload_n 2, 1) := by decide +kernel
theorem dX8_narrow_40 : decode cX8_narrow 40 = .ok (.lconst 0, 1) := by decide +kernel
theorem dX8_narrow_41 : decode cX8_narrow 41 = .ok (.lcmp, 1) := by decide +kernel
theorem dX8_narrow_42 : decode cX8_narrow 42 = .ok (.ifCond .eq 7, 3) := by decide +kernel
theorem dX8_narrow_45 : decode cX8_narrow 45 = .ok (.lconst 1, 1) := by decide +kernel
theorem dX8_narrow_46 : decode cX8_narrow 46 = .ok (.goto 8, 3) := by decide +kernel
theorem dX8_narrow_49 : decode cX8_narrow 49 = .ok (.lconst 0, 1) := by decide +kernel
theorem dX8_narrow_50 : decode cX8_narrow 50 = .ok (.goto 4, 3) := by decide +kernel
theorem dX8_narrow_53 : decode cX8_narrow 53 = .ok (.lload_n 2, 1) := by decide +kernel
theorem dX8_narrow_54 : decode cX8_narrow 54 = .ok (.lreturn, 1) := by decide +kernel
theorem oM_narrow : zok yX8_narrow 2 := by decide +kernel
theorem dX8_read_0 : decode cX8_read 0 = .ok (.aload_n 0, 1) := by decide +kernel
theorem dX8_read_1 : decode cX8_read 1 = .ok (.iload_n 1, 1) := by decide +kernel
theorem dX8_read_2 : decode cX8_read 2 = .ok (.invokevirtual 333, 3) := by decide +kernel
theorem dX8_read_5 : decode cX8_read 5 = .ok (.ifCond .eq 29, 3) := by decide +kernel
theorem dX8_read_8 : decode cX8_read 8 = .ok (.aload_n 0, 1) := by decide +kernel
theorem dX8_read_9 : decode cX8_read 9 = .ok (.getfield 196, 3) := by decide +kernel
theorem dX8_read_12 : decode cX8_read 12 = .ok (.iload_n 1, 1) := by decide +kernel
theorem dX8_read_13 : decode cX8_read 13 = .ok (.iaload, 1) := by decide +kernel
theorem dX8_read_14 : decode cX8_read 14 = .ok (.ifCond .lt 20, 3) := by decide +kernel
theorem dX8_read_17 : decode cX8_read 17 = .ok (.aload_n 0, 1) := by decide +kernel
theorem dX8_read_18 : decode cX8_read 18 = .ok (.iload_n 2, 1) := by decide +kernel
theorem dX8_read_19 : decode cX8_read 19 = .ok (.iconst 0, 1) := by decide +kernel
theorem dX8_read_20 : decode cX8_read 20 = .ok (.aload_n 0, 1) := by decide +kernel
theorem dX8_read_21 : decode cX8_read 21 = .ok (.getfield 199, 3) := by decide +kernel
theorem dX8_read_24 : decode cX8_read 24 = .ok (.iload_n 1, 1) := by decide +kernel
theorem dX8_read_25 : decode cX8_read 25 = .ok (.iaload, 1) := by decide +kernel
theorem dX8_read_26 : decode cX8_read 26 = .ok (.iconst 1, 1) := by decide +kernel
theorem dX8_read_27 : decode cX8_read 27 = .ok (.isub, 1) := by decide +kernel
theorem dX8_read_28 : decode cX8_read 28 = .ok (.invokevirtual 209, 3) := by decide +kernel
theorem dX8_read_31 : decode cX8_read 31 = .ok (.ifCond .ne 9, 3) := by decide +kernel
theorem dX8_read_34 : decode cX8_read 34 = .ok (.ldc2_w 327, 3) := by decide +kernel
theorem dX8_read_37 : decode cX8_read 37 = .ok (.goto 14, 3) := by decide +kernel
theorem dX8_read_40 : decode cX8_read 40 = .ok (.aload_n 0, 1) := by decide +kernel
theorem dX8_read_41 : decode cX8_read 41 = .ok (.getfield 202, 3) := by decide +kernel
theorem dX8_read_44 : decode cX8_read 44 = .ok (.bipush 60, 2) := by decide +kernel
theorem dX8_read_46 : decode cX8_read 46 = .ok (.iload_n 1, 1) := by decide +kernel
theorem dX8_read_47 : decode cX8_read 47 = .ok (.imul, 1) := by decide +kernel
theorem dX8_read_48 : decode cX8_read 48 = .ok (.iload_n 2, 1) := by decide +kernel
theorem dX8_read_49 : decode cX8_read 49 = .ok (.iadd, 1) := by decide +kernel
theorem dX8_read_50 : decode cX8_read 50 = .ok (.laload, 1) := by decide +kernel
theorem dX8_read_51 : decode cX8_read 51 = .ok (.lreturn, 1) := by decide +kernel
theorem oM_read : zok yX8_read 2 := by decide +kernel
