theorem dX8_likely_0 : decode cX8_likely 0 = .ok (.aload_n 0, 1) := by decide +kernel
theorem dX8_likely_1 : decode cX8_likely 1 = .ok (.iload_n 1, 1) := by decide +kernel
theorem dX8_likely_2 : decode cX8_likely 2 = .ok (.invokevirtual 213, 3) := by decide +kernel
theorem dX8_likely_5 : decode cX8_likely 5 = .ok (.ifCond .eq 13, 3) := by decide +kernel
theorem dX8_likely_8 : decode cX8_likely 8 = .ok (.aload_n 0, 1) := by decide +kernel
theorem dX8_likely_9 : decode cX8_likely 9 = .ok (.iload_n 2, 1) := by decide +kernel
theorem dX8_likely_10 : decode cX8_likely 10 = .ok (.iconst 0, 1) := by decide +kernel
theorem dX8_likely_11 : decode cX8_likely 11 = .ok (.iconst 1, 1) := by decide +kernel
theorem dX8_likely_12 : decode cX8_likely 12 = .ok (.invokevirtual 209, 3) := by decide +kernel
theorem dX8_likely_15 : decode cX8_likely 15 = .ok (.ifCond .ne 5, 3) := by decide +kernel
theorem dX8_likely_18 : decode cX8_likely 18 = .ok (.iconst (-1), 1) := by decide +kernel
theorem dX8_likely_19 : decode cX8_likely 19 = .ok (.ireturn, 1) := by decide +kernel
theorem dX8_likely_20 : decode cX8_likely 20 = .ok (.iconst 3, 1) := by decide +kernel
theorem dX8_likely_21 : decode cX8_likely 21 = .ok (.iload_n 1, 1) := by decide +kernel
theorem dX8_likely_22 : decode cX8_likely 22 = .ok (.imul, 1) := by decide +kernel
theorem dX8_likely_23 : decode cX8_likely 23 = .ok (.aload_n 0, 1) := by decide +kernel
theorem dX8_likely_24 : decode cX8_likely 24 = .ok (.getfield 26, 3) := by decide +kernel
theorem dX8_likely_27 : decode cX8_likely 27 = .ok (.iload_n 1, 1) := by decide +kernel
theorem dX8_likely_28 : decode cX8_likely 28 = .ok (.iaload, 1) := by decide +kernel
theorem dX8_likely_29 : decode cX8_likely 29 = .ok (.iadd, 1) := by decide +kernel
theorem dX8_likely_30 : decode cX8_likely 30 = .ok (.istore_n 3, 1) := by decide +kernel
theorem dX8_likely_31 : decode cX8_likely 31 = .ok (.aload_n 0, 1) := by decide +kernel
theorem dX8_likely_32 : decode cX8_likely 32 = .ok (.getfield 29, 3) := by decide +kernel
theorem dX8_likely_35 : decode cX8_likely 35 = .ok (.iload_n 3, 1) := by decide +kernel
theorem dX8_likely_36 : decode cX8_likely 36 = .ok (.iaload, 1) := by decide +kernel
theorem dX8_likely_37 : decode cX8_likely 37 = .ok (.istore 4, 2) := by decide +kernel
theorem dX8_likely_39 : decode cX8_likely 39 = .ok (.aload_n 0, 1) := by decide +kernel
theorem dX8_likely_40 : decode cX8_likely 40 = .ok (.iconst (-1), 1) := by decide +kernel
theorem dX8_likely_41 : decode cX8_likely 41 = .ok (.putfield 108, 3) := by decide +kernel
theorem dX8_likely_44 : decode cX8_likely 44 = .ok (.iconst 0, 1) := by decide +kernel
theorem dX8_likely_45 : decode cX8_likely 45 = .ok (.istore 5, 2) := by decide +kernel
theorem dX8_likely_47 : decode cX8_likely 47 = .ok (.iload 5, 2) := by decide +kernel
theorem dX8_likely_49 : decode cX8_likely 49 = .ok (.bipush 100, 2) := by decide +kernel
theorem dX8_likely_51 : decode cX8_likely 51 = .ok (.if_icmp .ge 48, 3) := by decide +kernel
theorem dX8_likely_54 : decode cX8_likely 54 = .ok (.aload_n 0, 1) := by decide +kernel
theorem dX8_likely_55 : decode cX8_likely 55 = .ok (.getfield 29, 3) := by decide +kernel
theorem dX8_likely_58 : decode cX8_likely 58 = .ok (.iload_n 3, 1) := by decide +kernel
theorem dX8_likely_59 : decode cX8_likely 59 = .ok (.iload 5, 2) := by decide +kernel
theorem dX8_likely_61 : decode cX8_likely 61 = .ok (.iastore, 1) := by decide +kernel
theorem dX8_likely_62 : decode cX8_likely 62 = .ok (.aload_n 0, 1) := by decide +kernel
theorem dX8_likely_63 : decode cX8_likely 63 = .ok (.iload_n 1, 1) := by decide +kernel
theorem dX8_likely_64 : decode cX8_likely 64 = .ok (.invokevirtual 309, 3) := by decide +kernel
theorem dX8_likely_67 : decode cX8_likely 67 = .ok (.istore 6, 2) := by decide +kernel
theorem dX8_likely_69 : decode cX8_likely 69 = .ok (.iload 6, 2) := by decide +kernel
theorem dX8_likely_71 : decode cX8_likely 71 = .ok (.aload_n 0, 1) := by decide +kernel
theorem dX8_likely_72 : decode cX8_likely 72 = .ok (.getfield 108, 3) := by decide +kernel
theorem dX8_likely_75 : decode cX8_likely 75 = .ok (.if_icmp .gt 6, 3) := by decide +kernel
theorem dX8_likely_78 : decode cX8_likely 78 = .ok (.goto 15, 3) := by decide +kernel
theorem dX8_likely_81 : decode cX8_likely 81 = .ok (.aload_n 0, 1) := by decide +kernel
theorem dX8_likely_82 : decode cX8_likely 82 = .ok (.iload 6, 2) := by decide +kernel
theorem dX8_likely_84 : decode cX8_likely 84 = .ok (.putfield 108, 3) := by decide +kernel
theorem dX8_likely_87 : decode cX8_likely 87 = .ok (.aload_n 0, 1) := by decide +kernel
theorem dX8_likely_88 : decode cX8_likely 88 = .ok (.iload 5, 2) := by decide +kernel
theorem dX8_likely_90 : decode cX8_likely 90 = .ok (.putfield 105, 3) := by decide +kernel
theorem dX8_likely_93 : decode cX8_likely 93 = .ok (.iinc 5 9, 3) := by decide +kernel
theorem dX8_likely_96 : decode cX8_likely 96 = .ok (.goto (-49), 3) := by decide +kernel
theorem dX8_likely_99 : decode cX8_likely 99 = .ok (.aload_n 0, 1) := by decide +kernel
theorem dX8_likely_100 : decode cX8_likely 100 = .ok (.getfield 29, 3) := by decide +kernel
theorem dX8_likely_103 : decode cX8_likely 103 = .ok (.iload_n 3, 1) := by decide +kernel
theorem dX8_likely_104 : decode cX8_likely 104 = .ok (.iload 4, 2) := by decide +kernel
theorem dX8_likely_106 : decode cX8_likely 106 = .ok (.iastore, 1) := by decide +kernel
theorem dX8_likely_107 : decode cX8_likely 107 = .ok (.iload_n 2, 1) := by decide +kernel
theorem dX8_likely_108 : decode cX8_likely 108 = .ok (.ifCond .ne 10, 3) := by decide +kernel
theorem dX8_likely_111 : decode cX8_likely 111 = .ok (.aload_n 0, 1) := by decide +kernel
theorem dX8_likely_112 : decode cX8_likely 112 = .ok (.getfield 105, 3) := by decide +kernel
theorem dX8_likely_115 : decode cX8_likely 115 = .ok (.goto 7, 3) := by decide +kernel
theorem dX8_likely_118 : decode cX8_likely 118 = .ok (.aload_n 0, 1) := by decide +kernel
theorem dX8_likely_119 : decode cX8_likely 119 = .ok (.getfield 108, 3) := by decide +kernel
theorem dX8_likely_122 : decode cX8_likely 122 = .ok (.ireturn, 1) := by decide +kernel
theorem oM_likely : zok yX8_likely 2 := by decide +kernel
theorem dX8_best_0 : decode cX8_best 0 = .ok (.aload_n 0, 1) := by decide +kernel
theorem dX8_best_1 : decode cX8_best 1 = .ok (.iload_n 1, 1) := by decide +kernel
theorem dX8_best_2 : decode cX8_best 2 = .ok (.invokevirtual 213, 3) := by decide +kernel
theorem dX8_best_5 : decode cX8_best 5 = .ok (.ifCond .eq 13, 3) := by decide +kernel
theorem dX8_best_8 : decode cX8_best 8 = .ok (.aload_n 0, 1) := by decide +kernel
theorem dX8_best_9 : decode cX8_best 9 = .ok (.iload_n 2, 1) := by decide +kernel
theorem dX8_best_10 : decode cX8_best 10 = .ok (.iconst 0, 1) := by decide +kernel
theorem dX8_best_11 : decode cX8_best 11 = .ok (.iconst 1, 1) := by decide +kernel
theorem dX8_best_12 : decode cX8_best 12 = .ok (.invokevirtual 209, 3) := by decide +kernel
theorem dX8_best_15 : decode cX8_best 15 = .ok (.ifCond .ne 5, 3) := by decide +kernel
theorem dX8_best_18 : decode cX8_best 18 = .ok (.iconst (-1), 1) := by decide +kernel
theorem dX8_best_19 : decode cX8_best 19 = .ok (.ireturn, 1) := by decide +kernel
theorem dX8_best_20 : decode cX8_best 20 = .ok (.aload_n 0, 1) := by decide +kernel
theorem dX8_best_21 : decode cX8_best 21 = .ok (.getfield 26, 3) := by decide +kernel
theorem dX8_best_24 : decode cX8_best 24 = .ok (.iload_n 1, 1) := by decide +kernel
theorem dX8_best_25 : decode cX8_best 25 = .ok (.iaload, 1) := by decide +kernel
theorem dX8_best_26 : decode cX8_best 26 = .ok (.istore_n 3, 1) := by decide +kernel
theorem dX8_best_27 : decode cX8_best 27 = .ok (.aload_n 0, 1) := by decide +kernel
theorem dX8_best_28 : decode cX8_best 28 = .ok (.iconst (-1), 1) := by decide +kernel
theorem dX8_best_29 : decode cX8_best 29 = .ok (.putfield 108, 3) := by decide +kernel
theorem dX8_best_32 : decode cX8_best 32 = .ok (.iconst 0, 1) := by decide +kernel
theorem dX8_best_33 : decode cX8_best 33 = .ok (.istore 4, 2) := by decide +kernel
theorem dX8_best_35 : decode cX8_best 35 = .ok (.iload 4, 2) := by decide +kernel
theorem dX8_best_37 : decode cX8_best 37 = .ok (.iconst 3, 1) := by decide +kernel
theorem dX8_best_38 : decode cX8_best 38 = .ok (.if_icmp .ge 48, 3) := by decide +kernel
theorem dX8_best_41 : decode cX8_best 41 = .ok (.aload_n 0, 1) := by decide +kernel
theorem dX8_best_42 : decode cX8_best 42 = .ok (.getfield 26, 3) := by decide +kernel
theorem dX8_best_45 : decode cX8_best 45 = .ok (.iload_n 1, 1) := by decide +kernel
theorem dX8_best_46 : decode cX8_best 46 = .ok (.iload 4, 2) := by decide +kernel
theorem dX8_best_48 : decode cX8_best 48 = .ok (.iastore, 1) := by decide +kernel
theorem dX8_best_49 : decode cX8_best 49 = .ok (.aload_n 0, 1) := by decide +kernel
theorem dX8_best_50 : decode cX8_best 50 = .ok (.iload_n 1, 1) := by decide +kernel
theorem dX8_best_51 : decode cX8_best 51 = .ok (.invokevirtual 309, 3) := by decide +kernel
theorem dX8_best_54 : decode cX8_best 54 = .ok (.istore 5, 2) := by decide +kernel
theorem dX8_best_56 : decode cX8_best 56 = .ok (.iload 5, 2) := by decide +kernel
theorem dX8_best_58 : decode cX8_best 58 = .ok (.aload_n 0, 1) := by decide +kernel
theorem dX8_best_59 : decode cX8_best 59 = .ok (.getfield 108, 3) := by decide +kernel
theorem dX8_best_62 : decode cX8_best 62 = .ok (.if_icmp .gt 6, 3) := by decide +kernel
theorem dX8_best_65 : decode cX8_best 65 = .ok (.goto 15, 3) := by decide +kernel
theorem dX8_best_68 : decode cX8_best 68 = .ok (.aload_n 0, 1) := by decide +kernel
theorem dX8_best_69 : decode cX8_best 69 = .ok (.iload 5, 2) := by decide +kernel
theorem dX8_best_71 : decode cX8_best 71 = .ok (.putfield 108, 3) := by decide +kernel
theorem dX8_best_74 : decode cX8_best 74 = .ok (.aload_n 0, 1) := by decide +kernel
theorem dX8_best_75 : decode cX8_best 75 = .ok (.iload 4, 2) := by decide +kernel
theorem dX8_best_77 : decode cX8_best 77 = .ok (.putfield 105, 3) := by decide +kernel
theorem dX8_best_80 : decode cX8_best 80 = .ok (.iinc 4 1, 3) := by decide +kernel
theorem dX8_best_83 : decode cX8_best 83 = .ok (.goto (-48), 3) := by decide +kernel
theorem dX8_best_86 : decode cX8_best 86 = .ok (.aload_n 0, 1) := by decide +kernel
theorem dX8_best_87 : decode cX8_best 87 = .ok (.getfield 26, 3) := by decide +kernel
theorem dX8_best_90 : decode cX8_best 90 = .ok (.iload_n 1, 1) := by decide +kernel
theorem dX8_best_91 : decode cX8_best 91 = .ok (.iload_n 3, 1) := by decide +kernel
theorem dX8_best_92 : decode cX8_best 92 = .ok (.iastore, 1) := by decide +kernel
theorem dX8_best_93 : decode cX8_best 93 = .ok (.iload_n 2, 1) := by decide +kernel
theorem dX8_best_94 : decode cX8_best 94 = .ok (.ifCond .ne 10, 3) := by decide +kernel
theorem dX8_best_97 : decode cX8_best 97 = .ok (.aload_n 0, 1) := by decide +kernel
theorem dX8_best_98 : decode cX8_best 98 = .ok (.getfield 105, 3) := by decide +kernel
theorem dX8_best_101 : decode cX8_best 101 = .ok (.goto 7, 3) := by decide +kernel
theorem dX8_best_104 : decode cX8_best 104 = .ok (.aload_n 0, 1) := by decide +kernel
theorem dX8_best_105 : decode cX8_best 105 = .ok (.getfield 108, 3) := by decide +kernel
theorem dX8_best_108 : decode cX8_best 108 = .ok (.ireturn, 1) := by decide +kernel
theorem oM_best : zok yX8_best 2 := by decide +kernel
theorem dX8_first_0 : decode cX8_first 0 = .ok (.aload_n 0, 1) := by decide +kernel
theorem dX8_first_1 : decode cX8_first 1 = .ok (.iload_n 1, 1) := by decide +kernel
theorem dX8_first_2 : decode cX8_first 2 = .ok (.invokevirtual 213, 3) := by decide +kernel
theorem dX8_first_5 : decode cX8_first 5 = .ok (.ifCond .eq 21, 3) := by decide +kernel
theorem dX8_first_8 : decode cX8_first 8 = .ok (.aload_n 0, 1) := by decide +kernel
theorem dX8_first_9 : decode cX8_first 9 = .ok (.iload_n 2, 1) := by decide +kernel
theorem dX8_first_10 : decode cX8_first 10 = .ok (.invokevirtual 213, 3) := by decide +kernel
theorem dX8_first_13 : decode cX8_first 13 = .ok (.ifCond .eq 13, 3) := by decide +kernel
theorem dX8_first_16 : decode cX8_first 16 = .ok (.aload_n 0, 1) := by decide +kernel
theorem dX8_first_17 : decode cX8_first 17 = .ok (.iload_n 3, 1) := by decide +kernel
theorem dX8_first_18 : decode cX8_first 18 = .ok (.iconst 0, 1) := by decide +kernel
theorem dX8_first_19 : decode cX8_first 19 = .ok (.iconst 2, 1) := by decide +kernel
theorem dX8_first_20 : decode cX8_first 20 = .ok (.invokevirtual 209, 3) := by decide +kernel
theorem dX8_first_23 : decode cX8_first 23 = .ok (.ifCond .ne 5, 3) := by decide +kernel
theorem dX8_first_26 : decode cX8_first 26 = .ok (.iconst (-1), 1) := by decide +kernel
theorem dX8_first_27 : decode cX8_first 27 = .ok (.ireturn, 1) := by decide +kernel
theorem dX8_first_28 : decode cX8_first 28 = .ok (.iload_n 1, 1) := by decide +kernel
theorem dX8_first_29 : decode cX8_first 29 = .ok (.iload_n 2, 1) := by decide +kernel
theorem dX8_first_30 : decode cX8_first 30 = .ok (.if_icmp .ne 6, 3) := by decide +kernel
theorem dX8_first_33 : decode cX8_first 33 = .ok (.bipush (-2), 2) := by decide +kernel
theorem dX8_first_35 : decode cX8_first 35 = .ok (.ireturn, 1) := by decide +kernel
theorem dX8_first_36 : decode cX8_first 36 = .ok (.aload_n 0, 1) := by decide +kernel
theorem dX8_first_37 : decode cX8_first 37 = .ok (.iload_n 2, 1) := by decide +kernel
theorem dX8_first_38 : decode cX8_first 38 = .ok (.invokevirtual 309, 3) := by decide +kernel
theorem dX8_first_41 : decode cX8_first 41 = .ok (.istore 4, 2) := by decide +kernel
theorem dX8_first_43 : decode cX8_first 43 = .ok (.iconst 0, 1) := by decide +kernel
theorem dX8_first_44 : decode cX8_first 44 = .ok (.istore 5, 2) := by decide +kernel
theorem dX8_first_46 : decode cX8_first 46 = .ok (.iload 5, 2) := by decide +kernel
theorem dX8_first_48 : decode cX8_first 48 = .ok (.bipush 6, 2) := by decide +kernel
theorem dX8_first_50 : decode cX8_first 50 = .ok (.if_icmp .ge 23, 3) := by decide +kernel
theorem dX8_first_53 : decode cX8_first 53 = .ok (.aload_n 0, 1) := by decide +kernel
theorem dX8_first_54 : decode cX8_first 54 = .ok (.getfield 111, 3) := by decide +kernel
theorem dX8_first_57 : decode cX8_first 57 = .ok (.iload 5, 2) := by decide +kernel
theorem dX8_first_59 : decode cX8_first 59 = .ok (.aload_n 0, 1) := by decide +kernel
theorem dX8_first_60 : decode cX8_first 60 = .ok (.getfield 99, 3) := by decide +kernel
theorem dX8_first_63 : decode cX8_first 63 = .ok (.iload 5, 2) := by decide +kernel
theorem dX8_first_65 : decode cX8_first 65 = .ok (.iaload, 1) := by decide +kernel
theorem dX8_first_66 : decode cX8_first 66 = .ok (.iastore, 1) := by decide +kernel
theorem dX8_first_67 : decode cX8_first 67 = .ok (.iinc 5 1, 3) := by decide +kernel
theorem dX8_first_70 : decode cX8_first 70 = .ok (.goto (-24), 3) := by decide +kernel
theorem dX8_first_73 : decode cX8_first 73 = .ok (.aload_n 0, 1) := by decide +kernel
theorem dX8_first_74 : decode cX8_first 74 = .ok (.invokevirtual 302, 3) := by decide +kernel
theorem dX8_first_77 : decode cX8_first 77 = .ok (.aload_n 0, 1) := by decide +kernel
theorem dX8_first_78 : decode cX8_first 78 = .ok (.getfield 96, 3) := by decide +kernel
theorem dX8_first_81 : decode cX8_first 81 = .ok (.iload_n 3, 1) := by decide +kernel
theorem dX8_first_82 : decode cX8_first 82 = .ok (.iconst 1, 1) := by decide +kernel
theorem dX8_first_83 : decode cX8_first 83 = .ok (.iastore, 1) := by decide +kernel
theorem dX8_first_84 : decode cX8_first 84 = .ok (.iconst 0, 1) := by decide +kernel
theorem dX8_first_85 : decode cX8_first 85 = .ok (.istore 5, 2) := by decide +kernel
theorem dX8_first_87 : decode cX8_first 87 = .ok (.iconst 0, 1) := by decide +kernel
theorem dX8_first_88 : decode cX8_first 88 = .ok (.istore 6, 2) := by decide +kernel
theorem dX8_first_90 : decode cX8_first 90 = .ok (.iload 6, 2) := by decide +kernel
theorem dX8_first_92 : decode cX8_first 92 = .ok (.aload_n 0, 1) := by decide +kernel
theorem dX8_first_93 : decode cX8_first 93 = .ok (.getfield 7, 3) := by decide +kernel
theorem dX8_first_96 : decode cX8_first 96 = .ok (.if_icmp .ge 58, 3) := by decide +kernel
theorem dX8_first_99 : decode cX8_first 99 = .ok (.iload 6, 2) := by decide +kernel
theorem dX8_first_101 : decode cX8_first 101 = .ok (.iload_n 2, 1) := by decide +kernel
theorem dX8_first_102 : decode cX8_first 102 = .ok (.if_icmp .eq 46, 3) := by decide +kernel
theorem dX8_first_105 : decode cX8_first 105 = .ok (.iload 6, 2) := by decide +kernel
theorem dX8_first_107 : decode cX8_first 107 = .ok (.iload_n 1, 1) := by decide +kernel
theorem dX8_first_108 : decode cX8_first 108 = .ok (.if_icmp .ne 6, 3) := by decide +kernel
theorem dX8_first_111 : decode cX8_first 111 = .ok (.goto 37, 3) := by decide +kernel
theorem dX8_first_114 : decode cX8_first 114 = .ok (.aload_n 0, 1) := by decide +kernel
theorem dX8_first_115 : decode cX8_first 115 = .ok (.iload 6, 2) := by decide +kernel
theorem dX8_first_117 : decode cX8_first 117 = .ok (.iload_n 2, 1) := by decide +kernel
theorem dX8_first_118 : decode cX8_first 118 = .ok (.invokevirtual 305, 3) := by decide +kernel
theorem dX8_first_121 : decode cX8_first 121 = .ok (.iload 5, 2) := by decide +kernel
theorem dX8_first_123 : decode cX8_first 123 = .ok (.aload_n 0, 1) := by decide +kernel
theorem dX8_first_124 : decode cX8_first 124 = .ok (.getfield 99, 3) := by decide +kernel
theorem dX8_first_127 : decode cX8_first 127 = .ok (.iload 6, 2) := by decide +kernel
theorem dX8_first_129 : decode cX8_first 129 = .ok (.iaload, 1) := by decide +kernel
theorem dX8_first_130 : decode cX8_first 130 = .ok (.aload_n 0, 1) := by decide +kernel
theorem dX8_first_131 : decode cX8_first 131 = .ok (.getfield 111, 3) := by decide +kernel
theorem dX8_first_134 : decode cX8_first 134 = .ok (.iload 6, 2) := by decide +kernel
theorem dX8_first_136 : decode cX8_first 136 = .ok (.iaload, 1) := by decide +kernel
theorem dX8_first_137 : decode cX8_first 137 = .ok (.if_icmp .ne 7, 3) := by decide +kernel
theorem dX8_first_140 : decode cX8_first 140 = .ok (.iconst 0, 1) := by decide +kernel
theorem dX8_first_141 : decode cX8_first 141 = .ok (.goto 4, 3) := by decide +kernel
theorem dX8_first_144 : decode cX8_first 144 = .ok (.iconst 1, 1) := by decide +kernel
theorem dX8_first_145 : decode cX8_first 145 = .ok (.iadd, 1) := by decide +kernel
theorem dX8_first_146 : decode cX8_first 146 = .ok (.istore 5, 2) := by decide +kernel
theorem dX8_first_148 : decode cX8_first 148 = .ok (.iinc 6 1, 3) := by decide +kernel
theorem dX8_first_151 : decode cX8_first 151 = .ok (.goto (-61), 3) := by decide +kernel
theorem dX8_first_154 : decode cX8_first 154 = .ok (.iload 5, 2) := by decide +kernel
theorem dX8_first_156 : decode cX8_first 156 = .ok (.ireturn, 1) := by decide +kernel
theorem oM_first : zok yX8_first 3 := by decide +kernel
theorem dX8_line_0 : decode cX8_line 0 = .ok (.aload_n 0, 1) := by decide +kernel
theorem dX8_line_1 : decode cX8_line 1 = .ok (.iload_n 1, 1) := by decide +kernel
theorem dX8_line_2 : decode cX8_line 2 = .ok (.invokevirtual 213, 3) := by decide +kernel
theorem dX8_line_5 : decode cX8_line 5 = .ok (.ifCond .eq 13, 3) := by decide +kernel
theorem dX8_line_8 : decode cX8_line 8 = .ok (.aload_n 0, 1) := by decide +kernel
theorem dX8_line_9 : decode cX8_line 9 = .ok (.iload_n 2, 1) := by decide +kernel
theorem dX8_line_10 : decode cX8_line 10 = .ok (.iconst (-1), 1) := by decide +kernel
theorem dX8_line_11 : decode cX8_line 11 = .ok (.iconst 3, 1) := by decide +kernel
theorem dX8_line_12 : decode cX8_line 12 = .ok (.invokevirtual 209, 3) := by decide +kernel
theorem dX8_line_15 : decode cX8_line 15 = .ok (.ifCond .ne 5, 3) := by decide +kernel
theorem dX8_line_18 : decode cX8_line 18 = .ok (.iconst (-1), 1) := by decide +kernel
theorem dX8_line_19 : decode cX8_line 19 = .ok (.ireturn, 1) := by decide +kernel
theorem dX8_line_20 : decode cX8_line 20 = .ok (.aload_n 0, 1) := by decide +kernel
theorem dX8_line_21 : decode cX8_line 21 = .ok (.getfield 7, 3) := by decide +kernel
theorem dX8_line_24 : decode cX8_line 24 = .ok (.iconst 5, 1) := by decide +kernel
theorem dX8_line_25 : decode cX8_line 25 = .ok (.if_icmp .le 6, 3) := by decide +kernel
theorem dX8_line_28 : decode cX8_line 28 = .ok (.bipush (-9), 2) := by decide +kernel
theorem dX8_line_30 : decode cX8_line 30 = .ok (.ireturn, 1) := by decide +kernel
theorem dX8_line_31 : decode cX8_line 31 = .ok (.aload_n 0, 1) := by decide +kernel
theorem dX8_line_32 : decode cX8_line 32 = .ok (.getfield 7, 3) := by decide +kernel
theorem dX8_line_35 : decode cX8_line 35 = .ok (.iconst 1, 1) := by decide +kernel
theorem dX8_line_36 : decode cX8_line 36 = .ok (.isub, 1) := by decide +kernel
theorem dX8_line_37 : decode cX8_line 37 = .ok (.istore_n 3, 1) := by decide +kernel
theorem dX8_line_38 : decode cX8_line 38 = .ok (.iconst 1, 1) := by decide +kernel
theorem dX8_line_39 : decode cX8_line 39 = .ok (.aload_n 0, 1) := by decide +kernel
theorem dX8_line_40 : decode cX8_line 40 = .ok (.getfield 7, 3) := by decide +kernel
theorem dX8_line_43 : decode cX8_line 43 = .ok (.ishl, 1) := by decide +kernel
theorem dX8_line_44 : decode cX8_line 44 = .ok (.iconst 1, 1) := by decide +kernel
theorem dX8_line_45 : decode cX8_line 45 = .ok (.isub, 1) := by decide +kernel
theorem dX8_line_46 : decode cX8_line 46 = .ok (.iconst 1, 1) := by decide +kernel
theorem dX8_line_47 : decode cX8_line 47 = .ok (.iload_n 1, 1) := by decide +kernel
theorem dX8_line_48 : decode cX8_line 48 = .ok (.ishl, 1) := by decide +kernel
theorem dX8_line_49 : decode cX8_line 49 = .ok (.iconst (-1), 1) := by decide +kernel
theorem dX8_line_50 : decode cX8_line 50 = .ok (.ixor, 1) := by decide +kernel
theorem dX8_line_51 : decode cX8_line 51 = .ok (.iand, 1) := by decide +kernel
theorem dX8_line_52 : decode cX8_line 52 = .ok (.istore 4, 2) := by decide +kernel
theorem dX8_line_54 : decode cX8_line 54 = .ok (.bipush 99, 2) := by decide +kernel
theorem dX8_line_56 : decode cX8_line 56 = .ok (.istore 5, 2) := by decide +kernel
theorem dX8_line_58 : decode cX8_line 58 = .ok (.iconst 0, 1) := by decide +kernel
theorem dX8_line_59 : decode cX8_line 59 = .ok (.istore 6, 2) := by decide +kernel
theorem dX8_line_61 : decode cX8_line 61 = .ok (.aload_n 0, 1) := by decide +kernel
theorem dX8_line_62 : decode cX8_line 62 = .ok (.iload 4, 2) := by decide +kernel
theorem dX8_line_64 : decode cX8_line 64 = .ok (.iload_n 3, 1) := by decide +kernel
theorem dX8_line_65 : decode cX8_line 65 = .ok (.iload 6, 2) := by decide +kernel
theorem dX8_line_67 : decode cX8_line 67 = .ok (.invokevirtual 318, 3) := by decide +kernel
theorem dX8_line_70 : decode cX8_line 70 = .ok (.ifCond .eq 97, 3) := by decide +kernel
theorem dX8_line_73 : decode cX8_line 73 = .ok (.aload_n 0, 1) := by decide +kernel
theorem dX8_line_74 : decode cX8_line 74 = .ok (.invokevirtual 302, 3) := by decide +kernel
theorem dX8_line_77 : decode cX8_line 77 = .ok (.iconst 0, 1) := by decide +kernel
theorem dX8_line_78 : decode cX8_line 78 = .ok (.istore 7, 2) := by decide +kernel
theorem dX8_line_80 : decode cX8_line 80 = .ok (.iload 7, 2) := by decide +kernel
theorem dX8_line_82 : decode cX8_line 82 = .ok (.iload_n 3, 1) := by decide +kernel
theorem dX8_line_83 : decode cX8_line 83 = .ok (.if_icmp .ge 21, 3) := by decide +kernel
theorem dX8_line_86 : decode cX8_line 86 = .ok (.aload_n 0, 1) := by decide +kernel
theorem dX8_line_87 : decode cX8_line 87 = .ok (.aload_n 0, 1) := by decide +kernel
theorem dX8_line_88 : decode cX8_line 88 = .ok (.getfield 114, 3) := by decide +kernel
theorem dX8_line_91 : decode cX8_line 91 = .ok (.iload 7, 2) := by decide +kernel
theorem dX8_line_93 : decode cX8_line 93 = .ok (.iaload, 1) := by decide +kernel
theorem dX8_line_94 : decode cX8_line 94 = .ok (.iload_n 1, 1) := by decide +kernel
theorem dX8_line_95 : decode cX8_line 95 = .ok (.invokevirtual 305, 3) := by decide +kernel
theorem dX8_line_98 : decode cX8_line 98 = .ok (.iinc 7 1, 3) := by decide +kernel
theorem dX8_line_101 : decode cX8_line 101 = .ok (.goto (-21), 3) := by decide +kernel
theorem dX8_line_104 : decode cX8_line 104 = .ok (.iload_n 3, 1) := by decide +kernel
theorem dX8_line_105 : decode cX8_line 105 = .ok (.aload_n 0, 1) := by decide +kernel
theorem dX8_line_106 : decode cX8_line 106 = .ok (.getfield 96, 3) := by decide +kernel
theorem dX8_line_109 : decode cX8_line 109 = .ok (.aload_n 0, 1) := by decide +kernel
theorem dX8_line_110 : decode cX8_line 110 = .ok (.iload_n 1, 1) := by decide +kernel
theorem dX8_line_111 : decode cX8_line 111 = .ok (.invokevirtual 289, 3) := by decide +kernel
theorem dX8_line_114 : decode cX8_line 114 = .ok (.iaload, 1) := by decide +kernel
theorem dX8_line_115 : decode cX8_line 115 = .ok (.isub, 1) := by decide +kernel
theorem dX8_line_116 : decode cX8_line 116 = .ok (.istore 7, 2) := by decide +kernel
theorem dX8_line_118 : decode cX8_line 118 = .ok (.iload 7, 2) := by decide +kernel
theorem dX8_line_120 : decode cX8_line 120 = .ok (.iload 5, 2) := by decide +kernel
theorem dX8_line_122 : decode cX8_line 122 = .ok (.if_icmp .lt 6, 3) := by decide +kernel
theorem dX8_line_125 : decode cX8_line 125 = .ok (.goto 36, 3) := by decide +kernel
theorem dX8_line_128 : decode cX8_line 128 = .ok (.iload 7, 2) := by decide +kernel
theorem dX8_line_130 : decode cX8_line 130 = .ok (.istore 5, 2) := by decide +kernel
theorem dX8_line_132 : decode cX8_line 132 = .ok (.iconst 0, 1) := by decide +kernel
theorem dX8_line_133 : decode cX8_line 133 = .ok (.istore 8, 2) := by decide +kernel
theorem dX8_line_135 : decode cX8_line 135 = .ok (.iload 8, 2) := by decide +kernel
theorem dX8_line_137 : decode cX8_line 137 = .ok (.iconst 4, 1) := by decide +kernel
theorem dX8_line_138 : decode cX8_line 138 = .ok (.if_icmp .ge 23, 3) := by decide +kernel
theorem dX8_line_141 : decode cX8_line 141 = .ok (.aload_n 0, 1) := by decide +kernel
theorem dX8_line_142 : decode cX8_line 142 = .ok (.getfield 117, 3) := by decide +kernel
theorem dX8_line_145 : decode cX8_line 145 = .ok (.iload 8, 2) := by decide +kernel
theorem dX8_line_147 : decode cX8_line 147 = .ok (.aload_n 0, 1) := by decide +kernel
theorem dX8_line_148 : decode cX8_line 148 = .ok (.getfield 114, 3) := by decide +kernel
theorem dX8_line_151 : decode cX8_line 151 = .ok (.iload 8, 2) := by decide +kernel
theorem dX8_line_153 : decode cX8_line 153 = .ok (.iaload, 1) := by decide +kernel
theorem dX8_line_154 : decode cX8_line 154 = .ok (.iastore, 1) := by decide +kernel
theorem dX8_line_155 : decode cX8_line 155 = .ok (.iinc 8 1, 3) := by decide +kernel
theorem dX8_line_158 : decode cX8_line 158 = .ok (.goto (-23), 3) := by decide +kernel
theorem dX8_line_161 : decode cX8_line 161 = .ok (.iinc 6 1, 3) := by decide +kernel
theorem dX8_line_164 : decode cX8_line 164 = .ok (.goto (-103), 3) := by decide +kernel
theorem dX8_line_167 : decode cX8_line 167 = .ok (.iload_n 2, 1) := by decide +kernel
theorem dX8_line_168 : decode cX8_line 168 = .ok (.ifCond .ge 8, 3) := by decide +kernel
theorem dX8_line_171 : decode cX8_line 171 = .ok (.iload 5, 2) := by decide +kernel
theorem dX8_line_173 : decode cX8_line 173 = .ok (.goto 19, 3) := by decide +kernel
theorem dX8_line_176 : decode cX8_line 176 = .ok (.iload_n 2, 1) := by decide +kernel
theorem dX8_line_177 : decode cX8_line 177 = .ok (.iload_n 3, 1) := by decide +kernel
theorem dX8_line_178 : decode cX8_line 178 = .ok (.if_icmp .ge 12, 3) := by decide +kernel
theorem dX8_line_181 : decode cX8_line 181 = .ok (.aload_n 0, 1) := by decide +kernel
theorem dX8_line_182 : decode cX8_line 182 = .ok (.getfield 117, 3) := by decide +kernel
theorem dX8_line_185 : decode cX8_line 185 = .ok (.iload_n 2, 1) := by decide +kernel
theorem dX8_line_186 : decode cX8_line 186 = .ok (.iaload, 1) := by decide +kernel
theorem dX8_line_187 : decode cX8_line 187 = .ok (.goto 5, 3) := by decide +kernel
theorem dX8_line_190 : decode cX8_line 190 = .ok (.bipush (-5), 2) := by decide +kernel
theorem dX8_line_192 : decode cX8_line 192 = .ok (.ireturn, 1) := by decide +kernel
theorem oM_line : zok yX8_line 2 := by decide +kernel
theorem dX8_layLine_0 : decode cX8_layLine 0 = .ok (.iconst 1, 1) := by decide +kernel
theorem dX8_layLine_1 : decode cX8_layLine 1 = .ok (.istore 4, 2) := by decide +kernel
theorem dX8_layLine_3 : decode cX8_layLine 3 = .ok (.iconst 2, 1) := by decide +kernel
theorem dX8_layLine_4 : decode cX8_layLine 4 = .ok (.istore 5, 2) := by decide +kernel
theorem dX8_layLine_6 : decode cX8_layLine 6 = .ok (.iload 5, 2) := by decide +kernel
theorem dX8_layLine_8 : decode cX8_layLine 8 = .ok (.iload_n 2, 1) := by decide +kernel
theorem dX8_layLine_9 : decode cX8_layLine 9 = .ok (.if_icmp .gt 16, 3) := by decide +kernel
theorem dX8_layLine_12 : decode cX8_layLine 12 = .ok (.iload 4, 2) := by decide +kernel
theorem dX8_layLine_14 : decode cX8_layLine 14 = .ok (.iload 5, 2) := by decide +kernel
theorem dX8_layLine_16 : decode cX8_layLine 16 = .ok (.imul, 1) := by decide +kernel
theorem dX8_layLine_17 : decode cX8_layLine 17 = .ok (.istore 4, 2) := by decide +kernel
theorem dX8_layLine_19 : decode cX8_layLine 19 = .ok (.iinc 5 1, 3) := by decide +kernel
theorem dX8_layLine_22 : decode cX8_layLine 22 = .ok (.goto (-16), 3) := by decide +kernel
theorem dX8_layLine_25 : decode cX8_layLine 25 = .ok (.iload_n 3, 1) := by decide +kernel
theorem dX8_layLine_26 : decode cX8_layLine 26 = .ok (.iload 4, 2) := by decide +kernel
theorem dX8_layLine_28 : decode cX8_layLine 28 = .ok (.if_icmp .lt 5, 3) := by decide +kernel
theorem dX8_layLine_31 : decode cX8_layLine 31 = .ok (.iconst 0, 1) := by decide +kernel
theorem dX8_layLine_32 : decode cX8_layLine 32 = .ok (.ireturn, 1) := by decide +kernel
theorem dX8_layLine_33 : decode cX8_layLine 33 = .ok (.iload_n 1, 1) := by decide +kernel
theorem dX8_layLine_34 : decode cX8_layLine 34 = .ok (.istore 5, 2) := by decide +kernel
theorem dX8_layLine_36 : decode cX8_layLine 36 = .ok (.iload_n 3, 1) := by decide +kernel
theorem dX8_layLine_37 : decode cX8_layLine 37 = .ok (.istore 6, 2) := by decide +kernel
theorem dX8_layLine_39 : decode cX8_layLine 39 = .ok (.iconst 0, 1) := by decide +kernel
theorem dX8_layLine_40 : decode cX8_layLine 40 = .ok (.istore 7, 2) := by decide +kernel
theorem dX8_layLine_42 : decode cX8_layLine 42 = .ok (.iload 7, 2) := by decide +kernel
theorem dX8_layLine_44 : decode cX8_layLine 44 = .ok (.iload_n 2, 1) := by decide +kernel
theorem dX8_layLine_45 : decode cX8_layLine 45 = .ok (.if_icmp .ge 98, 3) := by decide +kernel
theorem dX8_layLine_48 : decode cX8_layLine 48 = .ok (.iload 4, 2) := by decide +kernel
theorem dX8_layLine_50 : decode cX8_layLine 50 = .ok (.iload_n 2, 1) := by decide +kernel
theorem dX8_layLine_51 : decode cX8_layLine 51 = .ok (.iload 7, 2) := by decide +kernel
theorem dX8_layLine_53 : decode cX8_layLine 53 = .ok (.isub, 1) := by decide +kernel
theorem dX8_layLine_54 : decode cX8_layLine 54 = .ok (.idiv, 1) := by decide +kernel
theorem dX8_layLine_55 : decode cX8_layLine 55 = .ok (.istore 4, 2) := by decide +kernel
theorem dX8_layLine_57 : decode cX8_layLine 57 = .ok (.iload 6, 2) := by decide +kernel
theorem dX8_layLine_59 : decode cX8_layLine 59 = .ok (.iload 4, 2) := by decide +kernel
theorem dX8_layLine_61 : decode cX8_layLine 61 = .ok (.idiv, 1) := by decide +kernel
theorem dX8_layLine_62 : decode cX8_layLine 62 = .ok (.istore 8, 2) := by decide +kernel
theorem dX8_layLine_64 : decode cX8_layLine 64 = .ok (.iload 6, 2) := by decide +kernel
theorem dX8_layLine_66 : decode cX8_layLine 66 = .ok (.iload 4, 2) := by decide +kernel
theorem dX8_layLine_68 : decode cX8_layLine 68 = .ok (.irem, 1) := by decide +kernel
theorem dX8_layLine_69 : decode cX8_layLine 69 = .ok (.istore 6, 2) := by decide +kernel
theorem dX8_layLine_71 : decode cX8_layLine 71 = .ok (.iconst 0, 1) := by decide +kernel
theorem dX8_layLine_72 : decode cX8_layLine 72 = .ok (.istore 9, 2) := by decide +kernel
theorem dX8_layLine_74 : decode cX8_layLine 74 = .ok (.aload_n 0, 1) := by decide +kernel
theorem dX8_layLine_75 : decode cX8_layLine 75 = .ok (.iload 5, 2) := by decide +kernel
theorem dX8_layLine_77 : decode cX8_layLine 77 = .ok (.iload 9, 2) := by decide +kernel
theorem dX8_layLine_79 : decode cX8_layLine 79 = .ok (.invokevirtual 315, 3) := by decide +kernel
theorem dX8_layLine_82 : decode cX8_layLine 82 = .ok (.ifCond .eq 8, 3) := by decide +kernel
theorem dX8_layLine_85 : decode cX8_layLine 85 = .ok (.iload 8, 2) := by decide +kernel
theorem dX8_layLine_87 : decode cX8_layLine 87 = .ok (.ifCond .le 30, 3) := by decide +kernel
theorem dX8_layLine_90 : decode cX8_layLine 90 = .ok (.iload 8, 2) := by decide +kernel
theorem dX8_layLine_92 : decode cX8_layLine 92 = .ok (.aload_n 0, 1) := by decide +kernel
theorem dX8_layLine_93 : decode cX8_layLine 93 = .ok (.iload 5, 2) := by decide +kernel
theorem dX8_layLine_95 : decode cX8_layLine 95 = .ok (.iload 9, 2) := by decide +kernel
theorem dX8_layLine_97 : decode cX8_layLine 97 = .ok (.invokevirtual 315, 3) := by decide +kernel
theorem dX8_layLine_100 : decode cX8_layLine 100 = .ok (.ifCond .eq 7, 3) := by decide +kernel
theorem dX8_layLine_103 : decode cX8_layLine 103 = .ok (.iconst 1, 1) := by decide +kernel
theorem dX8_layLine_104 : decode cX8_layLine 104 = .ok (.goto 4, 3) := by decide +kernel
theorem dX8_layLine_107 : decode cX8_layLine 107 = .ok (.iconst 0, 1) := by decide +kernel
theorem dX8_layLine_108 : decode cX8_layLine 108 = .ok (.isub, 1) := by decide +kernel
theorem dX8_layLine_109 : decode cX8_layLine 109 = .ok (.istore 8, 2) := by decide +kernel
theorem dX8_layLine_111 : decode cX8_layLine 111 = .ok (.iinc 9 1, 3) := by decide +kernel
theorem dX8_layLine_114 : decode cX8_layLine 114 = .ok (.goto (-40), 3) := by decide +kernel
theorem dX8_layLine_117 : decode cX8_layLine 117 = .ok (.aload_n 0, 1) := by decide +kernel
theorem dX8_layLine_118 : decode cX8_layLine 118 = .ok (.getfield 114, 3) := by decide +kernel
theorem dX8_layLine_121 : decode cX8_layLine 121 = .ok (.iload 7, 2) := by decide +kernel
theorem dX8_layLine_123 : decode cX8_layLine 123 = .ok (.iload 9, 2) := by decide +kernel
theorem dX8_layLine_125 : decode cX8_layLine 125 = .ok (.iastore, 1) := by decide +kernel
theorem dX8_layLine_126 : decode cX8_layLine 126 = .ok (.iload 5, 2) := by decide +kernel
theorem dX8_layLine_128 : decode cX8_layLine 128 = .ok (.iconst 1, 1) := by decide +kernel
theorem dX8_layLine_129 : decode cX8_layLine 129 = .ok (.iload 9, 2) := by decide +kernel
theorem dX8_layLine_131 : decode cX8_layLine 131 = .ok (.ishl, 1) := by decide +kernel
theorem dX8_layLine_132 : decode cX8_layLine 132 = .ok (.iconst (-1), 1) := by decide +kernel
theorem dX8_layLine_133 : decode cX8_layLine 133 = .ok (.ixor, 1) := by decide +kernel
theorem dX8_layLine_134 : decode cX8_layLine 134 = .ok (.iand, 1) := by decide +kernel
theorem dX8_layLine_135 : decode cX8_layLine 135 = .ok (.istore 5, 2) := by decide +kernel
theorem dX8_layLine_137 : decode cX8_layLine 137 = .ok (.iinc 7 1, 3) := by decide +kernel
theorem dX8_layLine_140 : decode cX8_layLine 140 = .ok (.goto (-98), 3) := by decide +kernel
theorem dX8_layLine_143 : decode cX8_layLine 143 = .ok (.iconst 1, 1) := by decide +kernel
theorem dX8_layLine_144 : decode cX8_layLine 144 = .ok (.ireturn, 1) := by decide +kernel
theorem oM_layLine : zok yX8_layLine 3 := by decide +kernel
theorem dX8_has_0 : decode cX8_has 0 = .ok (.iload_n 1, 1) := by decide +kernel
theorem dX8_has_1 : decode cX8_has 1 = .ok (.iload_n 2, 1) := by decide +kernel
theorem dX8_has_2 : decode cX8_has 2 = .ok (.ishr, 1) := by decide +kernel
theorem dX8_has_3 : decode cX8_has 3 = .ok (.iconst 1, 1) := by decide +kernel
theorem dX8_has_4 : decode cX8_has 4 = .ok (.iand, 1) := by decide +kernel
theorem dX8_has_5 : decode cX8_has 5 = .ok (.iconst 1, 1) := by decide +kernel
theorem dX8_has_6 : decode cX8_has 6 = .ok (.if_icmp .ne 7, 3) := by decide +kernel
theorem dX8_has_9 : decode cX8_has 9 = .ok (.iconst 1, 1) := by decide +kernel
theorem dX8_has_10 : decode cX8_has 10 = .ok (.goto 4, 3) := by decide +kernel
theorem dX8_has_13 : decode cX8_has 13 = .ok (.iconst 0, 1) := by decide +kernel
theorem dX8_has_14 : decode cX8_has 14 = .ok (.ireturn, 1) := by decide +kernel
theorem oM_has : zok yX8_has 2 := by decide +kernel
theorem dX8_worth_0 : decode cX8_worth 0 = .ok (.aload_n 0, 1) := by decide +kernel
theorem dX8_worth_1 : decode cX8_worth 1 = .ok (.iload_n 1, 1) := by decide +kernel
theorem dX8_worth_2 : decode cX8_worth 2 = .ok (.invokevirtual 213, 3) := by decide +kernel
theorem dX8_worth_5 : decode cX8_worth 5 = .ok (.ifCond .ne 7, 3) := by decide +kernel
theorem dX8_worth_8 : decode cX8_worth 8 = .ok (.sipush (-1001), 3) := by decide +kernel
theorem dX8_worth_11 : decode cX8_worth 11 = .ok (.ireturn, 1) := by decide +kernel
theorem dX8_worth_12 : decode cX8_worth 12 = .ok (.aload_n 0, 1) := by decide +kernel
theorem dX8_worth_13 : decode cX8_worth 13 = .ok (.getfield 16, 3) := by decide +kernel
theorem dX8_worth_16 : decode cX8_worth 16 = .ok (.iload_n 1, 1) := by decide +kernel
theorem dX8_worth_17 : decode cX8_worth 17 = .ok (.iaload, 1) := by decide +kernel
theorem dX8_worth_18 : decode cX8_worth 18 = .ok (.iconst 3, 1) := by decide +kernel
theorem dX8_worth_19 : decode cX8_worth 19 = .ok (.if_icmp .eq 18, 3) := by decide +kernel
theorem dX8_worth_22 : decode cX8_worth 22 = .ok (.aload_n 0, 1) := by decide +kernel
theorem dX8_worth_23 : decode cX8_worth 23 = .ok (.getfield 16, 3) := by decide +kernel
theorem dX8_worth_26 : decode cX8_worth 26 = .ok (.iload_n 1, 1) := by decide +kernel
theorem dX8_worth_27 : decode cX8_worth 27 = .ok (.iaload, 1) := by decide +kernel
theorem dX8_worth_28 : decode cX8_worth 28 = .ok (.bipush 6, 2) := by decide +kernel
theorem dX8_worth_30 : decode cX8_worth 30 = .ok (.if_icmp .eq 7, 3) := by decide +kernel
theorem dX8_worth_33 : decode cX8_worth 33 = .ok (.sipush (-1003), 3) := by decide +kernel
theorem dX8_worth_36 : decode cX8_worth 36 = .ok (.ireturn, 1) := by decide +kernel
theorem dX8_worth_37 : decode cX8_worth 37 = .ok (.aload_n 0, 1) := by decide +kernel
theorem dX8_worth_38 : decode cX8_worth 38 = .ok (.iload_n 1, 1) := by decide +kernel
theorem dX8_worth_39 : decode cX8_worth 39 = .ok (.invokevirtual 321, 3) := by decide +kernel
theorem dX8_worth_42 : decode cX8_worth 42 = .ok (.istore_n 2, 1) := by decide +kernel
theorem dX8_worth_43 : decode cX8_worth 43 = .ok (.aload_n 0, 1) := by decide +kernel
theorem dX8_worth_44 : decode cX8_worth 44 = .ok (.iload_n 1, 1) := by decide +kernel
theorem dX8_worth_45 : decode cX8_worth 45 = .ok (.putfield 102, 3) := by decide +kernel
theorem dX8_worth_48 : decode cX8_worth 48 = .ok (.aload_n 0, 1) := by decide +kernel
theorem dX8_worth_49 : decode cX8_worth 49 = .ok (.iload_n 1, 1) := by decide +kernel
theorem dX8_worth_50 : decode cX8_worth 50 = .ok (.invokevirtual 321, 3) := by decide +kernel
theorem dX8_worth_53 : decode cX8_worth 53 = .ok (.istore_n 3, 1) := by decide +kernel
theorem dX8_worth_54 : decode cX8_worth 54 = .ok (.aload_n 0, 1) := by decide +kernel
theorem dX8_worth_55 : decode cX8_worth 55 = .ok (.iconst (-1), 1) := by decide +kernel
theorem dX8_worth_56 : decode cX8_worth 56 = .ok (.putfield 102, 3) := by decide +kernel
theorem dX8_worth_59 : decode cX8_worth 59 = .ok (.iload_n 2, 1) := by decide +kernel
theorem dX8_worth_60 : decode cX8_worth 60 = .ok (.iload_n 3, 1) := by decide +kernel
theorem dX8_worth_61 : decode cX8_worth 61 = .ok (.isub, 1) := by decide +kernel
theorem dX8_worth_62 : decode cX8_worth 62 = .ok (.ireturn, 1) := by decide +kernel
theorem oM_worth : zok yX8_worth 1 := by decide +kernel
theorem dX8_rightsOf_0 : decode cX8_rightsOf 0 = .ok (.iconst 0, 1) := by decide +kernel
theorem dX8_rightsOf_1 : decode cX8_rightsOf 1 = .ok (.istore_n 2, 1) := by decide +kernel
theorem dX8_rightsOf_2 : decode cX8_rightsOf 2 = .ok (.iconst 0, 1) := by decide +kernel
theorem dX8_rightsOf_3 : decode cX8_rightsOf 3 = .ok (.istore_n 3, 1) := by decide +kernel
theorem dX8_rightsOf_4 : decode cX8_rightsOf 4 = .ok (.iload_n 3, 1) := by decide +kernel
theorem dX8_rightsOf_5 : decode cX8_rightsOf 5 = .ok (.aload_n 0, 1) := by decide +kernel
theorem dX8_rightsOf_6 : decode cX8_rightsOf 6 = .ok (.getfield 7, 3) := by decide +kernel
theorem dX8_rightsOf_9 : decode cX8_rightsOf 9 = .ok (.if_icmp .ge 46, 3) := by decide +kernel
theorem dX8_rightsOf_12 : decode cX8_rightsOf 12 = .ok (.iload_n 3, 1) := by decide +kernel
theorem dX8_rightsOf_13 : decode cX8_rightsOf 13 = .ok (.iload_n 1, 1) := by decide +kernel
theorem dX8_rightsOf_14 : decode cX8_rightsOf 14 = .ok (.if_icmp .ne 6, 3) := by decide +kernel
theorem dX8_rightsOf_17 : decode cX8_rightsOf 17 = .ok (.goto 32, 3) := by decide +kernel
theorem dX8_rightsOf_20 : decode cX8_rightsOf 20 = .ok (.aload_n 0, 1) := by decide +kernel
theorem dX8_rightsOf_21 : decode cX8_rightsOf 21 = .ok (.iload_n 3, 1) := by decide +kernel
theorem dX8_rightsOf_22 : decode cX8_rightsOf 22 = .ok (.invokevirtual 309, 3) := by decide +kernel
theorem dX8_rightsOf_25 : decode cX8_rightsOf 25 = .ok (.istore 4, 2) := by decide +kernel
theorem dX8_rightsOf_27 : decode cX8_rightsOf 27 = .ok (.iload_n 2, 1) := by decide +kernel
theorem dX8_rightsOf_28 : decode cX8_rightsOf 28 = .ok (.aload_n 0, 1) := by decide +kernel
theorem dX8_rightsOf_29 : decode cX8_rightsOf 29 = .ok (.getfield 99, 3) := by decide +kernel
theorem dX8_rightsOf_32 : decode cX8_rightsOf 32 = .ok (.iload_n 1, 1) := by decide +kernel
theorem dX8_rightsOf_33 : decode cX8_rightsOf 33 = .ok (.iaload, 1) := by decide +kernel
theorem dX8_rightsOf_34 : decode cX8_rightsOf 34 = .ok (.aload_n 0, 1) := by decide +kernel
theorem dX8_rightsOf_35 : decode cX8_rightsOf 35 = .ok (.iload_n 3, 1) := by decide +kernel
theorem dX8_rightsOf_36 : decode cX8_rightsOf 36 = .ok (.invokevirtual 289, 3) := by decide +kernel
theorem dX8_rightsOf_39 : decode cX8_rightsOf 39 = .ok (.if_icmp .ne 7, 3) := by decide +kernel
theorem dX8_rightsOf_42 : decode cX8_rightsOf 42 = .ok (.iconst 1, 1) := by decide +kernel
theorem dX8_rightsOf_43 : decode cX8_rightsOf 43 = .ok (.goto 4, 3) := by decide +kernel
theorem dX8_rightsOf_46 : decode cX8_rightsOf 46 = .ok (.iconst 0, 1) := by decide +kernel
theorem dX8_rightsOf_47 : decode cX8_rightsOf 47 = .ok (.iadd, 1) := by decide +kernel
theorem dX8_rightsOf_48 : decode cX8_rightsOf 48 = .ok (.istore_n 2, 1) := by decide +kernel
theorem dX8_rightsOf_49 : decode cX8_rightsOf 49 = .ok (.iinc 3 1, 3) := by decide +kernel
theorem dX8_rightsOf_52 : decode cX8_rightsOf 52 = .ok (.goto (-48), 3) := by decide +kernel
theorem dX8_rightsOf_55 : decode cX8_rightsOf 55 = .ok (.iload_n 2, 1) := by decide +kernel
theorem dX8_rightsOf_56 : decode cX8_rightsOf 56 = .ok (.ireturn, 1) := by decide +kernel
theorem oM_rightsOf : zok yX8_rightsOf 1 := by decide +kernel
theorem dX8_see_0 : decode cX8_see 0 = .ok (.aload_n 0, 1) := by decide +kernel
theorem dX8_see_1 : decode cX8_see 1 = .ok (.iload_n 1, 1) := by decide +kernel
theorem dX8_see_2 : decode cX8_see 2 = .ok (.iconst 0, 1) := by decide +kernel
theorem dX8_see_3 : decode cX8_see 3 = .ok (.iconst 2, 1) := by decide +kernel
theorem dX8_see_4 : decode cX8_see 4 = .ok (.invokevirtual 209, 3) := by decide +kernel
theorem dX8_see_7 : decode cX8_see 7 = .ok (.ifCond .ne 5, 3) := by decide +kernel
theorem dX8_see_10 : decode cX8_see 10 = .ok (.iconst (-1), 1) := by decide +kernel
theorem dX8_see_11 : decode cX8_see 11 = .ok (.ireturn, 1) := by decide +kernel
theorem dX8_see_12 : decode cX8_see 12 = .ok (.aload_n 0, 1) := by decide +kernel
theorem dX8_see_13 : decode cX8_see 13 = .ok (.iload_n 2, 1) := by decide +kernel
theorem dX8_see_14 : decode cX8_see 14 = .ok (.iconst 0, 1) := by decide +kernel
theorem dX8_see_15 : decode cX8_see 15 = .ok (.iconst 5, 1) := by decide +kernel
theorem dX8_see_16 : decode cX8_see 16 = .ok (.invokevirtual 209, 3) := by decide +kernel
theorem dX8_see_19 : decode cX8_see 19 = .ok (.ifCond .ne 6, 3) := by decide +kernel
theorem dX8_see_22 : decode cX8_see 22 = .ok (.bipush (-2), 2) := by decide +kernel
theorem dX8_see_24 : decode cX8_see 24 = .ok (.ireturn, 1) := by decide +kernel
theorem dX8_see_25 : decode cX8_see 25 = .ok (.aload_n 0, 1) := by decide +kernel
theorem dX8_see_26 : decode cX8_see 26 = .ok (.getfield 120, 3) := by decide +kernel
theorem dX8_see_29 : decode cX8_see 29 = .ok (.iload_n 1, 1) := by decide +kernel
theorem dX8_see_30 : decode cX8_see 30 = .ok (.iaload, 1) := by decide +kernel
theorem dX8_see_31 : decode cX8_see 31 = .ok (.istore_n 3, 1) := by decide +kernel
theorem dX8_see_32 : decode cX8_see 32 = .ok (.aload_n 0, 1) := by decide +kernel
theorem dX8_see_33 : decode cX8_see 33 = .ok (.getfield 120, 3) := by decide +kernel
theorem dX8_see_36 : decode cX8_see 36 = .ok (.iload_n 1, 1) := by decide +kernel
theorem dX8_see_37 : decode cX8_see 37 = .ok (.iload_n 2, 1) := by decide +kernel
theorem dX8_see_38 : decode cX8_see 38 = .ok (.iastore, 1) := by decide +kernel
theorem dX8_see_39 : decode cX8_see 39 = .ok (.iload_n 3, 1) := by decide +kernel
theorem dX8_see_40 : decode cX8_see 40 = .ok (.ireturn, 1) := by decide +kernel
theorem oM_see : zok yX8_see 2 := by decide +kernel
theorem dX8_lies_0 : decode cX8_lies 0 = .ok (.aload_n 0, 1) := by decide +kernel
theorem dX8_lies_1 : decode cX8_lies 1 = .ok (.iload_n 1, 1) := by decide +kernel
theorem dX8_lies_2 : decode cX8_lies 2 = .ok (.invokevirtual 213, 3) := by decide +kernel
theorem dX8_lies_5 : decode cX8_lies 5 = .ok (.ifCond .ne 5, 3) := by decide +kernel
theorem dX8_lies_8 : decode cX8_lies 8 = .ok (.iconst (-1), 1) := by decide +kernel
theorem dX8_lies_9 : decode cX8_lies 9 = .ok (.ireturn, 1) := by decide +kernel
theorem dX8_lies_10 : decode cX8_lies 10 = .ok (.aload_n 0, 1) := by decide +kernel
theorem dX8_lies_11 : decode cX8_lies 11 = .ok (.getfield 26, 3) := by decide +kernel
theorem dX8_lies_14 : decode cX8_lies 14 = .ok (.iload_n 1, 1) := by decide +kernel
theorem dX8_lies_15 : decode cX8_lies 15 = .ok (.iaload, 1) := by decide +kernel
theorem dX8_lies_16 : decode cX8_lies 16 = .ok (.istore_n 2, 1) := by decide +kernel
theorem dX8_lies_17 : decode cX8_lies 17 = .ok (.iconst 0, 1) := by decide +kernel
theorem dX8_lies_18 : decode cX8_lies 18 = .ok (.istore_n 3, 1) := by decide +kernel
theorem dX8_lies_19 : decode cX8_lies 19 = .ok (.iconst 0, 1) := by decide +kernel
theorem dX8_lies_20 : decode cX8_lies 20 = .ok (.istore 4, 2) := by decide +kernel
theorem dX8_lies_22 : decode cX8_lies 22 = .ok (.iload 4, 2) := by decide +kernel
theorem dX8_lies_24 : decode cX8_lies 24 = .ok (.iconst 3, 1) := by decide +kernel
theorem dX8_lies_25 : decode cX8_lies 25 = .ok (.if_icmp .ge 80, 3) := by decide +kernel
theorem dX8_lies_28 : decode cX8_lies 28 = .ok (.aload_n 0, 1) := by decide +kernel
theorem dX8_lies_29 : decode cX8_lies 29 = .ok (.getfield 26, 3) := by decide +kernel
theorem dX8_lies_32 : decode cX8_lies 32 = .ok (.iload_n 1, 1) := by decide +kernel
theorem dX8_lies_33 : decode cX8_lies 33 = .ok (.iload 4, 2) := by decide +kernel
theorem dX8_lies_35 : decode cX8_lies 35 = .ok (.iastore, 1) := by decide +kernel
theorem dX8_lies_36 : decode cX8_lies 36 = .ok (.aload_n 0, 1) := by decide +kernel
theorem dX8_lies_37 : decode cX8_lies 37 = .ok (.iload_n 1, 1) := by decide +kernel
theorem dX8_lies_38 : decode cX8_lies 38 = .ok (.invokevirtual 309, 3) := by decide +kernel
theorem dX8_lies_41 : decode cX8_lies 41 = .ok (.istore 5, 2) := by decide +kernel
theorem dX8_lies_43 : decode cX8_lies 43 = .ok (.iload_n 3, 1) := by decide +kernel
theorem dX8_lies_44 : decode cX8_lies 44 = .ok (.aload_n 0, 1) := by decide +kernel
theorem dX8_lies_45 : decode cX8_lies 45 = .ok (.getfield 96, 3) := by decide +kernel
theorem dX8_lies_48 : decode cX8_lies 48 = .ok (.iconst 0, 1) := by decide +kernel
theorem dX8_lies_49 : decode cX8_lies 49 = .ok (.iaload, 1) := by decide +kernel
theorem dX8_lies_50 : decode cX8_lies 50 = .ok (.aload_n 0, 1) := by decide +kernel
theorem dX8_lies_51 : decode cX8_lies 51 = .ok (.getfield 120, 3) := by decide +kernel
theorem dX8_lies_54 : decode cX8_lies 54 = .ok (.iconst 0, 1) := by decide +kernel
theorem dX8_lies_55 : decode cX8_lies 55 = .ok (.iaload, 1) := by decide +kernel
theorem dX8_lies_56 : decode cX8_lies 56 = .ok (.if_icmp .ne 40, 3) := by decide +kernel
theorem dX8_lies_59 : decode cX8_lies 59 = .ok (.aload_n 0, 1) := by decide +kernel
theorem dX8_lies_60 : decode cX8_lies 60 = .ok (.getfield 96, 3) := by decide +kernel
theorem dX8_lies_63 : decode cX8_lies 63 = .ok (.iconst 1, 1) := by decide +kernel
theorem dX8_lies_64 : decode cX8_lies 64 = .ok (.iaload, 1) := by decide +kernel
theorem dX8_lies_65 : decode cX8_lies 65 = .ok (.aload_n 0, 1) := by decide +kernel
theorem dX8_lies_66 : decode cX8_lies 66 = .ok (.getfield 120, 3) := by decide +kernel
theorem dX8_lies_69 : decode cX8_lies 69 = .ok (.iconst 1, 1) := by decide +kernel
theorem dX8_lies_70 : decode cX8_lies 70 = .ok (.iaload, 1) := by decide +kernel
theorem dX8_lies_71 : decode cX8_lies 71 = .ok (.if_icmp .ne 25, 3) := by decide +kernel
theorem dX8_lies_74 : decode cX8_lies 74 = .ok (.aload_n 0, 1) := by decide +kernel
theorem dX8_lies_75 : decode cX8_lies 75 = .ok (.getfield 96, 3) := by decide +kernel
theorem dX8_lies_78 : decode cX8_lies 78 = .ok (.iconst 2, 1) := by decide +kernel
theorem dX8_lies_79 : decode cX8_lies 79 = .ok (.iaload, 1) := by decide +kernel
theorem dX8_lies_80 : decode cX8_lies 80 = .ok (.aload_n 0, 1) := by decide +kernel
theorem dX8_lies_81 : decode cX8_lies 81 = .ok (.getfield 120, 3) := by decide +kernel
theorem dX8_lies_84 : decode cX8_lies 84 = .ok (.iconst 2, 1) := by decide +kernel
theorem dX8_lies_85 : decode cX8_lies 85 = .ok (.iaload, 1) := by decide +kernel
theorem dX8_lies_86 : decode cX8_lies 86 = .ok (.if_icmp .ne 10, 3) := by decide +kernel
theorem dX8_lies_89 : decode cX8_lies 89 = .ok (.iconst 1, 1) := by decide +kernel
theorem dX8_lies_90 : decode cX8_lies 90 = .ok (.iload 4, 2) := by decide +kernel
theorem dX8_lies_92 : decode cX8_lies 92 = .ok (.ishl, 1) := by decide +kernel
theorem dX8_lies_93 : decode cX8_lies 93 = .ok (.goto 4, 3) := by decide +kernel
theorem dX8_lies_96 : decode cX8_lies 96 = .ok (.iconst 0, 1) := by decide +kernel
theorem dX8_lies_97 : decode cX8_lies 97 = .ok (.ior, 1) := by decide +kernel
theorem dX8_lies_98 : decode cX8_lies 98 = .ok (.istore_n 3, 1) := by decide +kernel
theorem dX8_lies_99 : decode cX8_lies 99 = .ok (.iinc 4 1, 3) := by decide +kernel
theorem dX8_lies_102 : decode cX8_lies 102 = .ok (.goto (-80), 3) := by decide +kernel
theorem dX8_lies_105 : decode cX8_lies 105 = .ok (.aload_n 0, 1) := by decide +kernel
theorem dX8_lies_106 : decode cX8_lies 106 = .ok (.getfield 26, 3) := by decide +kernel
theorem dX8_lies_109 : decode cX8_lies 109 = .ok (.iload_n 1, 1) := by decide +kernel
theorem dX8_lies_110 : decode cX8_lies 110 = .ok (.iload_n 2, 1) := by decide +kernel
theorem dX8_lies_111 : decode cX8_lies 111 = .ok (.iastore, 1) := by decide +kernel
theorem dX8_lies_112 : decode cX8_lies 112 = .ok (.iload_n 3, 1) := by decide +kernel
theorem dX8_lies_113 : decode cX8_lies 113 = .ok (.ireturn, 1) := by decide +kernel
theorem oM_lies : zok yX8_lies 1 := by decide +kernel
theorem dX8_ends_0 : decode cX8_ends 0 = .ok (.aload_n 0, 1) := by decide +kernel
theorem dX8_ends_1 : decode cX8_ends 1 = .ok (.iload_n 1, 1) := by decide +kernel
theorem dX8_ends_2 : decode cX8_ends 2 = .ok (.invokevirtual 213, 3) := by decide +kernel
theorem dX8_ends_5 : decode cX8_ends 5 = .ok (.ifCond .eq 13, 3) := by decide +kernel
theorem dX8_ends_8 : decode cX8_ends 8 = .ok (.aload_n 0, 1) := by decide +kernel
theorem dX8_ends_9 : decode cX8_ends 9 = .ok (.iload_n 3, 1) := by decide +kernel
theorem dX8_ends_10 : decode cX8_ends 10 = .ok (.iconst 0, 1) := by decide +kernel
theorem dX8_ends_11 : decode cX8_ends 11 = .ok (.iconst 1, 1) := by decide +kernel
theorem dX8_ends_12 : decode cX8_ends 12 = .ok (.invokevirtual 209, 3) := by decide +kernel
theorem dX8_ends_15 : decode cX8_ends 15 = .ok (.ifCond .ne 5, 3) := by decide +kernel
theorem dX8_ends_18 : decode cX8_ends 18 = .ok (.iconst (-1), 1) := by decide +kernel
theorem dX8_ends_19 : decode cX8_ends 19 = .ok (.ireturn, 1) := by decide +kernel
theorem dX8_ends_20 : decode cX8_ends 20 = .ok (.aload_n 0, 1) := by decide +kernel
theorem dX8_ends_21 : decode cX8_ends 21 = .ok (.iload_n 2, 1) := by decide +kernel
theorem dX8_ends_22 : decode cX8_ends 22 = .ok (.iconst 0, 1) := by decide +kernel
theorem dX8_ends_23 : decode cX8_ends 23 = .ok (.bipush 30, 2) := by decide +kernel
theorem dX8_ends_25 : decode cX8_ends 25 = .ok (.invokevirtual 209, 3) := by decide +kernel
theorem dX8_ends_28 : decode cX8_ends 28 = .ok (.ifCond .ne 6, 3) := by decide +kernel
theorem dX8_ends_31 : decode cX8_ends 31 = .ok (.bipush (-2), 2) := by decide +kernel
theorem dX8_ends_33 : decode cX8_ends 33 = .ok (.ireturn, 1) := by decide +kernel
theorem dX8_ends_34 : decode cX8_ends 34 = .ok (.aload_n 0, 1) := by decide +kernel
theorem dX8_ends_35 : decode cX8_ends 35 = .ok (.getfield 13, 3) := by decide +kernel
theorem dX8_ends_38 : decode cX8_ends 38 = .ok (.istore 4, 2) := by decide +kernel
theorem dX8_ends_40 : decode cX8_ends 40 = .ok (.iconst 0, 1) := by decide +kernel
theorem dX8_ends_41 : decode cX8_ends 41 = .ok (.istore 5, 2) := by decide +kernel
theorem dX8_ends_43 : decode cX8_ends 43 = .ok (.iload 5, 2) := by decide +kernel
theorem dX8_ends_45 : decode cX8_ends 45 = .ok (.bipush 6, 2) := by decide +kernel
theorem dX8_ends_47 : decode cX8_ends 47 = .ok (.if_icmp .ge 23, 3) := by decide +kernel
theorem dX8_ends_50 : decode cX8_ends 50 = .ok (.aload_n 0, 1) := by decide +kernel
theorem dX8_ends_51 : decode cX8_ends 51 = .ok (.getfield 123, 3) := by decide +kernel
theorem dX8_ends_54 : decode cX8_ends 54 = .ok (.iload 5, 2) := by decide +kernel
theorem dX8_ends_56 : decode cX8_ends 56 = .ok (.aload_n 0, 1) := by decide +kernel
theorem dX8_ends_57 : decode cX8_ends 57 = .ok (.getfield 23, 3) := by decide +kernel
theorem dX8_ends_60 : decode cX8_ends 60 = .ok (.iload 5, 2) := by decide +kernel
theorem dX8_ends_62 : decode cX8_ends 62 = .ok (.iaload, 1) := by decide +kernel
theorem dX8_ends_63 : decode cX8_ends 63 = .ok (.iastore, 1) := by decide +kernel
theorem dX8_ends_64 : decode cX8_ends 64 = .ok (.iinc 5 1, 3) := by decide +kernel
theorem dX8_ends_67 : decode cX8_ends 67 = .ok (.goto (-24), 3) := by decide +kernel
theorem dX8_ends_70 : decode cX8_ends 70 = .ok (.iconst 0, 1) := by decide +kernel
theorem dX8_ends_71 : decode cX8_ends 71 = .ok (.istore 5, 2) := by decide +kernel
theorem dX8_ends_73 : decode cX8_ends 73 = .ok (.iload 5, 2) := by decide +kernel
theorem dX8_ends_75 : decode cX8_ends 75 = .ok (.iload_n 2, 1) := by decide +kernel
theorem dX8_ends_76 : decode cX8_ends 76 = .ok (.if_icmp .ge 24, 3) := by decide +kernel
theorem dX8_ends_79 : decode cX8_ends 79 = .ok (.aload_n 0, 1) := by decide +kernel
theorem dX8_ends_80 : decode cX8_ends 80 = .ok (.aload_n 0, 1) := by decide +kernel
theorem dX8_ends_81 : decode cX8_ends 81 = .ok (.getfield 13, 3) := by decide +kernel
theorem dX8_ends_84 : decode cX8_ends 84 = .ok (.aload_n 0, 1) := by decide +kernel
theorem dX8_ends_85 : decode cX8_ends 85 = .ok (.getfield 7, 3) := by decide +kernel
theorem dX8_ends_88 : decode cX8_ends 88 = .ok (.irem, 1) := by decide +kernel
theorem dX8_ends_89 : decode cX8_ends 89 = .ok (.invokevirtual 312, 3) := by decide +kernel
theorem dX8_ends_92 : decode cX8_ends 92 = .ok (.istore 6, 2) := by decide +kernel
theorem dX8_ends_94 : decode cX8_ends 94 = .ok (.iinc 5 1, 3) := by decide +kernel
theorem dX8_ends_97 : decode cX8_ends 97 = .ok (.goto (-24), 3) := by decide +kernel
theorem dX8_ends_100 : decode cX8_ends 100 = .ok (.iconst 0, 1) := by decide +kernel
theorem dX8_ends_101 : decode cX8_ends 101 = .ok (.istore 5, 2) := by decide +kernel
theorem dX8_ends_103 : decode cX8_ends 103 = .ok (.iconst 1, 1) := by decide +kernel
theorem dX8_ends_104 : decode cX8_ends 104 = .ok (.istore 6, 2) := by decide +kernel
theorem dX8_ends_106 : decode cX8_ends 106 = .ok (.iload 6, 2) := by decide +kernel
theorem dX8_ends_108 : decode cX8_ends 108 = .ok (.aload_n 0, 1) := by decide +kernel
theorem dX8_ends_109 : decode cX8_ends 109 = .ok (.getfield 7, 3) := by decide +kernel
theorem dX8_ends_112 : decode cX8_ends 112 = .ok (.if_icmp .ge 35, 3) := by decide +kernel
theorem dX8_ends_115 : decode cX8_ends 115 = .ok (.aload_n 0, 1) := by decide +kernel
theorem dX8_ends_116 : decode cX8_ends 116 = .ok (.getfield 23, 3) := by decide +kernel
theorem dX8_ends_119 : decode cX8_ends 119 = .ok (.iload 6, 2) := by decide +kernel
theorem dX8_ends_121 : decode cX8_ends 121 = .ok (.iaload, 1) := by decide +kernel
theorem dX8_ends_122 : decode cX8_ends 122 = .ok (.aload_n 0, 1) := by decide +kernel
theorem dX8_ends_123 : decode cX8_ends 123 = .ok (.getfield 23, 3) := by decide +kernel
theorem dX8_ends_126 : decode cX8_ends 126 = .ok (.iload 5, 2) := by decide +kernel
theorem dX8_ends_128 : decode cX8_ends 128 = .ok (.iaload, 1) := by decide +kernel
theorem dX8_ends_129 : decode cX8_ends 129 = .ok (.if_icmp .le 8, 3) := by decide +kernel
theorem dX8_ends_132 : decode cX8_ends 132 = .ok (.iload 6, 2) := by decide +kernel
theorem dX8_ends_134 : decode cX8_ends 134 = .ok (.goto 5, 3) := by decide +kernel
theorem dX8_ends_137 : decode cX8_ends 137 = .ok (.iload 5, 2) := by decide +kernel
theorem dX8_ends_139 : decode cX8_ends 139 = .ok (.istore 5, 2) := by decide +kernel
theorem dX8_ends_141 : decode cX8_ends 141 = .ok (.iinc 6 1, 3) := by decide +kernel
theorem dX8_ends_144 : decode cX8_ends 144 = .ok (.goto (-38), 3) := by decide +kernel
theorem dX8_ends_147 : decode cX8_ends 147 = .ok (.iload_n 3, 1) := by decide +kernel
theorem dX8_ends_148 : decode cX8_ends 148 = .ok (.ifCond .ne 12, 3) := by decide +kernel
theorem dX8_ends_151 : decode cX8_ends 151 = .ok (.aload_n 0, 1) := by decide +kernel
theorem dX8_ends_152 : decode cX8_ends 152 = .ok (.getfield 23, 3) := by decide +kernel
theorem dX8_ends_155 : decode cX8_ends 155 = .ok (.iload_n 1, 1) := by decide +kernel
theorem dX8_ends_156 : decode cX8_ends 156 = .ok (.iaload, 1) := by decide +kernel
theorem dX8_ends_157 : decode cX8_ends 157 = .ok (.goto 5, 3) := by decide +kernel
theorem dX8_ends_160 : decode cX8_ends 160 = .ok (.iload 5, 2) := by decide +kernel
theorem dX8_ends_162 : decode cX8_ends 162 = .ok (.istore 6, 2) := by decide +kernel
theorem dX8_ends_164 : decode cX8_ends 164 = .ok (.iconst 0, 1) := by decide +kernel
theorem dX8_ends_165 : decode cX8_ends 165 = .ok (.istore 7, 2) := by decide +kernel
theorem dX8_ends_167 : decode cX8_ends 167 = .ok (.iload 7, 2) := by decide +kernel
theorem dX8_ends_169 : decode cX8_ends 169 = .ok (.bipush 6, 2) := by decide +kernel
theorem dX8_ends_171 : decode cX8_ends 171 = .ok (.if_icmp .ge 23, 3) := by decide +kernel
theorem dX8_ends_174 : decode cX8_ends 174 = .ok (.aload_n 0, 1) := by decide +kernel
theorem dX8_ends_175 : decode cX8_ends 175 = .ok (.getfield 23, 3) := by decide +kernel
theorem dX8_ends_178 : decode cX8_ends 178 = .ok (.iload 7, 2) := by decide +kernel
theorem dX8_ends_180 : decode cX8_ends 180 = .ok (.aload_n 0, 1) := by decide +kernel
theorem dX8_ends_181 : decode cX8_ends 181 = .ok (.getfield 123, 3) := by decide +kernel
theorem dX8_ends_184 : decode cX8_ends 184 = .ok (.iload 7, 2) := by decide +kernel
theorem dX8_ends_186 : decode cX8_ends 186 = .ok (.iaload, 1) := by decide +kernel
theorem dX8_ends_187 : decode cX8_ends 187 = .ok (.iastore, 1) := by decide +kernel
theorem dX8_ends_188 : decode cX8_ends 188 = .ok (.iinc 7 1, 3) := by decide +kernel
theorem dX8_ends_191 : decode cX8_ends 191 = .ok (.goto (-24), 3) := by decide +kernel
theorem dX8_ends_194 : decode cX8_ends 194 = .ok (.aload_n 0, 1) := by decide +kernel
theorem dX8_ends_195 : decode cX8_ends 195 = .ok (.iload 4, 2) := by decide +kernel
theorem dX8_ends_197 : decode cX8_ends 197 = .ok (.putfield 13, 3) := by decide +kernel
theorem dX8_ends_200 : decode cX8_ends 200 = .ok (.iload 6, 2) := by decide +kernel
theorem dX8_ends_202 : decode cX8_ends 202 = .ok (.ireturn, 1) := by decide +kernel
theorem oM_ends : zok yX8_ends 3 := by decide +kernel
theorem dX8_odds_0 : decode cX8_odds 0 = .ok (.aload_n 0, 1) := by decide +kernel
theorem dX8_odds_1 : decode cX8_odds 1 = .ok (.iload_n 1, 1) := by decide +kernel
theorem dX8_odds_2 : decode cX8_odds 2 = .ok (.invokevirtual 213, 3) := by decide +kernel
theorem dX8_odds_5 : decode cX8_odds 5 = .ok (.ifCond .eq 13, 3) := by decide +kernel
theorem dX8_odds_8 : decode cX8_odds 8 = .ok (.aload_n 0, 1) := by decide +kernel
theorem dX8_odds_9 : decode cX8_odds 9 = .ok (.iload_n 2, 1) := by decide +kernel
theorem dX8_odds_10 : decode cX8_odds 10 = .ok (.iconst 0, 1) := by decide +kernel
theorem dX8_odds_11 : decode cX8_odds 11 = .ok (.iconst 1, 1) := by decide +kernel
theorem dX8_odds_12 : decode cX8_odds 12 = .ok (.invokevirtual 209, 3) := by decide +kernel
theorem dX8_odds_15 : decode cX8_odds 15 = .ok (.ifCond .ne 7, 3) := by decide +kernel
theorem dX8_odds_18 : decode cX8_odds 18 = .ok (.ldc2_w 327, 3) := by decide +kernel
theorem dX8_odds_21 : decode cX8_odds 21 = .ok (.lreturn, 1) := by decide +kernel
theorem dX8_odds_22 : decode cX8_odds 22 = .ok (.iconst 0, 1) := by decide +kernel
theorem dX8_odds_23 : decode cX8_odds 23 = .ok (.istore_n 3, 1) := by decide +kernel
theorem dX8_odds_24 : decode cX8_odds 24 = .ok (.iconst 0, 1) := by decide +kernel
theorem dX8_odds_25 : decode cX8_odds 25 = .ok (.istore 4, 2) := by decide +kernel
theorem dX8_odds_27 : decode cX8_odds 27 = .ok (.iload 4, 2) := by decide +kernel
theorem dX8_odds_29 : decode cX8_odds 29 = .ok (.iconst 3, 1) := by decide +kernel
theorem dX8_odds_30 : decode cX8_odds 30 = .ok (.if_icmp .ge 72, 3) := by decide +kernel
theorem dX8_odds_33 : decode cX8_odds 33 = .ok (.aload_n 0, 1) := by decide +kernel
theorem dX8_odds_34 : decode cX8_odds 34 = .ok (.getfield 29, 3) := by decide +kernel
theorem dX8_odds_37 : decode cX8_odds 37 = .ok (.iconst 3, 1) := by decide +kernel
theorem dX8_odds_38 : decode cX8_odds 38 = .ok (.iload_n 1, 1) := by decide +kernel
theorem dX8_odds_39 : decode cX8_odds 39 = .ok (.imul, 1) := by decide +kernel
theorem dX8_odds_40 : decode cX8_odds 40 = .ok (.iload 4, 2) := by decide +kernel
theorem dX8_odds_42 : decode cX8_odds 42 = .ok (.iadd, 1) := by decide +kernel
theorem dX8_odds_43 : decode cX8_odds 43 = .ok (.iaload, 1) := by decide +kernel
theorem dX8_odds_44 : decode cX8_odds 44 = .ok (.istore 5, 2) := by decide +kernel
theorem dX8_odds_46 : decode cX8_odds 46 = .ok (.aload_n 0, 1) := by decide +kernel
theorem dX8_odds_47 : decode cX8_odds 47 = .ok (.getfield 29, 3) := by decide +kernel
theorem dX8_odds_50 : decode cX8_odds 50 = .ok (.iconst 3, 1) := by decide +kernel
theorem dX8_odds_51 : decode cX8_odds 51 = .ok (.iload_n 1, 1) := by decide +kernel
theorem dX8_odds_52 : decode cX8_odds 52 = .ok (.imul, 1) := by decide +kernel
theorem dX8_odds_53 : decode cX8_odds 53 = .ok (.iload 4, 2) := by decide +kernel
theorem dX8_odds_55 : decode cX8_odds 55 = .ok (.iadd, 1) := by decide +kernel
theorem dX8_odds_56 : decode cX8_odds 56 = .ok (.bipush 50, 2) := by decide +kernel
theorem dX8_odds_58 : decode cX8_odds 58 = .ok (.iastore, 1) := by decide +kernel
theorem dX8_odds_59 : decode cX8_odds 59 = .ok (.iload_n 3, 1) := by decide +kernel
theorem dX8_odds_60 : decode cX8_odds 60 = .ok (.iconst 2, 1) := by decide +kernel
theorem dX8_odds_61 : decode cX8_odds 61 = .ok (.aload_n 0, 1) := by decide +kernel
theorem dX8_odds_62 : decode cX8_odds 62 = .ok (.iload_n 1, 1) := by decide +kernel
theorem dX8_odds_63 : decode cX8_odds 63 = .ok (.invokevirtual 309, 3) := by decide +kernel
theorem dX8_odds_66 : decode cX8_odds 66 = .ok (.imul, 1) := by decide +kernel
theorem dX8_odds_67 : decode cX8_odds 67 = .ok (.aload_n 0, 1) := by decide +kernel
theorem dX8_odds_68 : decode cX8_odds 68 = .ok (.getfield 7, 3) := by decide +kernel
theorem dX8_odds_71 : decode cX8_odds 71 = .ok (.iconst 1, 1) := by decide +kernel
theorem dX8_odds_72 : decode cX8_odds 72 = .ok (.isub, 1) := by decide +kernel
theorem dX8_odds_73 : decode cX8_odds 73 = .ok (.if_icmp .le 7, 3) := by decide +kernel
theorem dX8_odds_76 : decode cX8_odds 76 = .ok (.iconst 1, 1) := by decide +kernel
theorem dX8_odds_77 : decode cX8_odds 77 = .ok (.goto 4, 3) := by decide +kernel
theorem dX8_odds_80 : decode cX8_odds 80 = .ok (.iconst 0, 1) := by decide +kernel
theorem dX8_odds_81 : decode cX8_odds 81 = .ok (.iadd, 1) := by decide +kernel
theorem dX8_odds_82 : decode cX8_odds 82 = .ok (.istore_n 3, 1) := by decide +kernel
theorem dX8_odds_83 : decode cX8_odds 83 = .ok (.aload_n 0, 1) := by decide +kernel
theorem dX8_odds_84 : decode cX8_odds 84 = .ok (.getfield 29, 3) := by decide +kernel
theorem dX8_odds_87 : decode cX8_odds 87 = .ok (.iconst 3, 1) := by decide +kernel
theorem dX8_odds_88 : decode cX8_odds 88 = .ok (.iload_n 1, 1) := by decide +kernel
theorem dX8_odds_89 : decode cX8_odds 89 = .ok (.imul, 1) := by decide +kernel
theorem dX8_odds_90 : decode cX8_odds 90 = .ok (.iload 4, 2) := by decide +kernel
theorem dX8_odds_92 : decode cX8_odds 92 = .ok (.iadd, 1) := by decide +kernel
theorem dX8_odds_93 : decode cX8_odds 93 = .ok (.iload 5, 2) := by decide +kernel
theorem dX8_odds_95 : decode cX8_odds 95 = .ok (.iastore, 1) := by decide +kernel
theorem dX8_odds_96 : decode cX8_odds 96 = .ok (.iinc 4 1, 3) := by decide +kernel
theorem dX8_odds_99 : decode cX8_odds 99 = .ok (.goto (-72), 3) := by decide +kernel
theorem dX8_odds_102 : decode cX8_odds 102 = .ok (.aload_n 0, 1) := by decide +kernel
theorem dX8_odds_103 : decode cX8_odds 103 = .ok (.iload_n 3, 1) := by decide +kernel
theorem dX8_odds_104 : decode cX8_odds 104 = .ok (.iconst 3, 1) := by decide +kernel
theorem dX8_odds_105 : decode cX8_odds 105 = .ok (.iload_n 2, 1) := by decide +kernel
theorem dX8_odds_106 : decode cX8_odds 106 = .ok (.invokevirtual 329, 3) := by decide +kernel
theorem dX8_odds_109 : decode cX8_odds 109 = .ok (.lreturn, 1) := by decide +kernel
theorem oM_odds : zok yX8_odds 2 := by decide +kernel
theorem dX8_lowest_0 : decode cX8_lowest 0 = .ok (.aload_n 0, 1) := by decide +kernel
theorem dX8_lowest_1 : decode cX8_lowest 1 = .ok (.iload_n 1, 1) := by decide +kernel
theorem dX8_lowest_2 : decode cX8_lowest 2 = .ok (.iload_n 2, 1) := by decide +kernel
theorem dX8_lowest_3 : decode cX8_lowest 3 = .ok (.invokevirtual 324, 3) := by decide +kernel
theorem dX8_lowest_6 : decode cX8_lowest 6 = .ok (.istore 4, 2) := by decide +kernel
theorem dX8_lowest_8 : decode cX8_lowest 8 = .ok (.iload_n 3, 1) := by decide +kernel
theorem dX8_lowest_9 : decode cX8_lowest 9 = .ok (.ifCond .ne 11, 3) := by decide +kernel
theorem dX8_lowest_12 : decode cX8_lowest 12 = .ok (.iload_n 1, 1) := by decide +kernel
theorem dX8_lowest_13 : decode cX8_lowest 13 = .ok (.iload 4, 2) := by decide +kernel
theorem dX8_lowest_15 : decode cX8_lowest 15 = .ok (.idiv, 1) := by decide +kernel
theorem dX8_lowest_16 : decode cX8_lowest 16 = .ok (.i2l, 1) := by decide +kernel
theorem dX8_lowest_17 : decode cX8_lowest 17 = .ok (.goto 8, 3) := by decide +kernel
theorem dX8_lowest_20 : decode cX8_lowest 20 = .ok (.iload_n 2, 1) := by decide +kernel
theorem dX8_lowest_21 : decode cX8_lowest 21 = .ok (.iload 4, 2) := by decide +kernel
theorem dX8_lowest_23 : decode cX8_lowest 23 = .ok (.idiv, 1) := by decide +kernel
theorem dX8_lowest_24 : decode cX8_lowest 24 = .ok (.i2l, 1) := by decide +kernel
theorem dX8_lowest_25 : decode cX8_lowest 25 = .ok (.lreturn, 1) := by decide +kernel
theorem oM_lowest : zok yX8_lowest 3 := by decide +kernel
theorem dX8_divisor_0 : decode cX8_divisor 0 = .ok (.iload_n 1, 1) := by decide +kernel
theorem dX8_divisor_1 : decode cX8_divisor 1 = .ok (.istore_n 3, 1) := by decide +kernel
theorem dX8_divisor_2 : decode cX8_divisor 2 = .ok (.iload_n 2, 1) := by decide +kernel
theorem dX8_divisor_3 : decode cX8_divisor 3 = .ok (.istore 4, 2) := by decide +kernel
theorem dX8_divisor_5 : decode cX8_divisor 5 = .ok (.iload 4, 2) := by decide +kernel
theorem dX8_divisor_7 : decode cX8_divisor 7 = .ok (.ifCond .eq 19, 3) := by decide +kernel
theorem dX8_divisor_10 : decode cX8_divisor 10 = .ok (.iload_n 3, 1) := by decide +kernel
theorem dX8_divisor_11 : decode cX8_divisor 11 = .ok (.iload 4, 2) := by decide +kernel
theorem dX8_divisor_13 : decode cX8_divisor 13 = .ok (.irem, 1) := by decide +kernel
theorem dX8_divisor_14 : decode cX8_divisor 14 = .ok (.istore 5, 2) := by decide +kernel
theorem dX8_divisor_16 : decode cX8_divisor 16 = .ok (.iload 4, 2) := by decide +kernel
theorem dX8_divisor_18 : decode cX8_divisor 18 = .ok (.istore_n 3, 1) := by decide +kernel
theorem dX8_divisor_19 : decode cX8_divisor 19 = .ok (.iload 5, 2) := by decide +kernel
theorem dX8_divisor_21 : decode cX8_divisor 21 = .ok (.istore 4, 2) := by decide +kernel
theorem dX8_divisor_23 : decode cX8_divisor 23 = .ok (.goto (-18), 3) := by decide +kernel
theorem dX8_divisor_26 : decode cX8_divisor 26 = .ok (.iload_n 3, 1) := by decide +kernel
theorem dX8_divisor_27 : decode cX8_divisor 27 = .ok (.ireturn, 1) := by decide +kernel
theorem oM_divisor : zok yX8_divisor 2 := by decide +kernel
theorem dX8_mean_0 : decode cX8_mean 0 = .ok (.aload_n 0, 1) := by decide +kernel
theorem dX8_mean_1 : decode cX8_mean 1 = .ok (.iload_n 1, 1) := by decide +kernel
theorem dX8_mean_2 : decode cX8_mean 2 = .ok (.iconst 0, 1) := by decide +kernel
theorem dX8_mean_3 : decode cX8_mean 3 = .ok (.iconst 1, 1) := by decide +kernel
theorem dX8_mean_4 : decode cX8_mean 4 = .ok (.invokevirtual 209, 3) := by decide +kernel
theorem dX8_mean_7 : decode cX8_mean 7 = .ok (.ifCond .eq 10, 3) := by decide +kernel
theorem dX8_mean_10 : decode cX8_mean 10 = .ok (.aload_n 0, 1) := by decide +kernel
theorem dX8_mean_11 : decode cX8_mean 11 = .ok (.getfield 7, 3) := by decide +kernel
theorem dX8_mean_14 : decode cX8_mean 14 = .ok (.ifCond .ne 7, 3) := by decide +kernel
theorem dX8_mean_17 : decode cX8_mean 17 = .ok (.ldc2_w 327, 3) := by decide +kernel
theorem dX8_mean_20 : decode cX8_mean 20 = .ok (.lreturn, 1) := by decide +kernel
theorem dX8_mean_21 : decode cX8_mean 21 = .ok (.iconst 0, 1) := by decide +kernel
theorem dX8_mean_22 : decode cX8_mean 22 = .ok (.istore_n 2, 1) := by decide +kernel
theorem dX8_mean_23 : decode cX8_mean 23 = .ok (.iconst 0, 1) := by decide +kernel
theorem dX8_mean_24 : decode cX8_mean 24 = .ok (.istore_n 3, 1) := by decide +kernel
theorem dX8_mean_25 : decode cX8_mean 25 = .ok (.iload_n 3, 1) := by decide +kernel
theorem dX8_mean_26 : decode cX8_mean 26 = .ok (.aload_n 0, 1) := by decide +kernel
theorem dX8_mean_27 : decode cX8_mean 27 = .ok (.getfield 7, 3) := by decide +kernel
theorem dX8_mean_30 : decode cX8_mean 30 = .ok (.if_icmp .ge 17, 3) := by decide +kernel
theorem dX8_mean_33 : decode cX8_mean 33 = .ok (.iload_n 2, 1) := by decide +kernel
theorem dX8_mean_34 : decode cX8_mean 34 = .ok (.aload_n 0, 1) := by decide +kernel
theorem dX8_mean_35 : decode cX8_mean 35 = .ok (.iload_n 3, 1) := by decide +kernel
theorem dX8_mean_36 : decode cX8_mean 36 = .ok (.invokevirtual 309, 3) := by decide +kernel
theorem dX8_mean_39 : decode cX8_mean 39 = .ok (.iadd, 1) := by decide +kernel
theorem dX8_mean_40 : decode cX8_mean 40 = .ok (.istore_n 2, 1) := by decide +kernel
theorem dX8_mean_41 : decode cX8_mean 41 = .ok (.iinc 3 1, 3) := by decide +kernel
theorem dX8_mean_44 : decode cX8_mean 44 = .ok (.goto (-19), 3) := by decide +kernel
theorem dX8_mean_47 : decode cX8_mean 47 = .ok (.aload_n 0, 1) := by decide +kernel
theorem dX8_mean_48 : decode cX8_mean 48 = .ok (.iload_n 2, 1) := by decide +kernel
theorem dX8_mean_49 : decode cX8_mean 49 = .ok (.aload_n 0, 1) := by decide +kernel
theorem dX8_mean_50 : decode cX8_mean 50 = .ok (.getfield 7, 3) := by decide +kernel
theorem dX8_mean_53 : decode cX8_mean 53 = .ok (.iload_n 1, 1) := by decide +kernel
theorem dX8_mean_54 : decode cX8_mean 54 = .ok (.invokevirtual 329, 3) := by decide +kernel
theorem dX8_mean_57 : decode cX8_mean 57 = .ok (.lreturn, 1) := by decide +kernel
theorem oM_mean : zok yX8_mean 1 := by decide +kernel
theorem dX8_book_0 : decode cX8_book 0 = .ok (.iload_n 1, 1) := by decide +kernel
theorem dX8_book_1 : decode cX8_book 1 = .ok (.iconst (-1), 1) := by decide +kernel
theorem dX8_book_2 : decode cX8_book 2 = .ok (.if_icmp .ne 10, 3) := by decide +kernel
theorem dX8_book_5 : decode cX8_book 5 = .ok (.aload_n 0, 1) := by decide +kernel
theorem dX8_book_6 : decode cX8_book 6 = .ok (.iconst 0, 1) := by decide +kernel
theorem dX8_book_7 : decode cX8_book 7 = .ok (.putfield 126, 3) := by decide +kernel
theorem dX8_book_10 : decode cX8_book 10 = .ok (.iconst 0, 1) := by decide +kernel
theorem dX8_book_11 : decode cX8_book 11 = .ok (.ireturn, 1) := by decide +kernel
theorem dX8_book_12 : decode cX8_book 12 = .ok (.aload_n 0, 1) := by decide +kernel
theorem dX8_book_13 : decode cX8_book 13 = .ok (.iload_n 1, 1) := by decide +kernel
theorem dX8_book_14 : decode cX8_book 14 = .ok (.invokevirtual 213, 3) := by decide +kernel
theorem dX8_book_17 : decode cX8_book 17 = .ok (.ifCond .eq 21, 3) := by decide +kernel
theorem dX8_book_20 : decode cX8_book 20 = .ok (.aload_n 0, 1) := by decide +kernel
theorem dX8_book_21 : decode cX8_book 21 = .ok (.iload_n 2, 1) := by decide +kernel
theorem dX8_book_22 : decode cX8_book 22 = .ok (.invokevirtual 213, 3) := by decide +kernel
theorem dX8_book_25 : decode cX8_book 25 = .ok (.ifCond .eq 13, 3) := by decide +kernel
theorem dX8_book_28 : decode cX8_book 28 = .ok (.aload_n 0, 1) := by decide +kernel
theorem dX8_book_29 : decode cX8_book 29 = .ok (.iload_n 3, 1) := by decide +kernel
theorem dX8_book_30 : decode cX8_book 30 = .ok (.iconst 0, 1) := by decide +kernel
theorem dX8_book_31 : decode cX8_book 31 = .ok (.iconst 2, 1) := by decide +kernel
theorem dX8_book_32 : decode cX8_book 32 = .ok (.invokevirtual 209, 3) := by decide +kernel
theorem dX8_book_35 : decode cX8_book 35 = .ok (.ifCond .ne 5, 3) := by decide +kernel
theorem dX8_book_38 : decode cX8_book 38 = .ok (.iconst (-1), 1) := by decide +kernel
theorem dX8_book_39 : decode cX8_book 39 = .ok (.ireturn, 1) := by decide +kernel
theorem dX8_book_40 : decode cX8_book 40 = .ok (.iload_n 1, 1) := by decide +kernel
theorem dX8_book_41 : decode cX8_book 41 = .ok (.iload_n 2, 1) := by decide +kernel
theorem dX8_book_42 : decode cX8_book 42 = .ok (.if_icmp .ne 6, 3) := by decide +kernel
theorem dX8_book_45 : decode cX8_book 45 = .ok (.bipush (-2), 2) := by decide +kernel
theorem dX8_book_47 : decode cX8_book 47 = .ok (.ireturn, 1) := by decide +kernel
theorem dX8_book_48 : decode cX8_book 48 = .ok (.aload_n 0, 1) := by decide +kernel
theorem dX8_book_49 : decode cX8_book 49 = .ok (.getfield 126, 3) := by decide +kernel
theorem dX8_book_52 : decode cX8_book 52 = .ok (.bipush 12, 2) := by decide +kernel
theorem dX8_book_54 : decode cX8_book 54 = .ok (.if_icmp .ne 6, 3) := by decide +kernel
theorem dX8_book_57 : decode cX8_book 57 = .ok (.bipush (-4), 2) := by decide +kernel
theorem dX8_book_59 : decode cX8_book 59 = .ok (.ireturn, 1) := by decide +kernel
theorem dX8_book_60 : decode cX8_book 60 = .ok (.aload_n 0, 1) := by decide +kernel
theorem dX8_book_61 : decode cX8_book 61 = .ok (.getfield 129, 3) := by decide +kernel
theorem dX8_book_64 : decode cX8_book 64 = .ok (.aload_n 0, 1) := by decide +kernel
theorem dX8_book_65 : decode cX8_book 65 = .ok (.getfield 126, 3) := by decide +kernel
theorem dX8_book_68 : decode cX8_book 68 = .ok (.iload_n 1, 1) := by decide +kernel
theorem dX8_book_69 : decode cX8_book 69 = .ok (.iastore, 1) := by decide +kernel
theorem dX8_book_70 : decode cX8_book 70 = .ok (.aload_n 0, 1) := by decide +kernel
theorem dX8_book_71 : decode cX8_book 71 = .ok (.getfield 132, 3) := by decide +kernel
theorem dX8_book_74 : decode cX8_book 74 = .ok (.aload_n 0, 1) := by decide +kernel
theorem dX8_book_75 : decode cX8_book 75 = .ok (.getfield 126, 3) := by decide +kernel
theorem dX8_book_78 : decode cX8_book 78 = .ok (.iload_n 2, 1) := by decide +kernel
theorem dX8_book_79 : decode cX8_book 79 = .ok (.iastore, 1) := by decide +kernel
theorem dX8_book_80 : decode cX8_book 80 = .ok (.aload_n 0, 1) := by decide +kernel
theorem dX8_book_81 : decode cX8_book 81 = .ok (.getfield 135, 3) := by decide +kernel
theorem dX8_book_84 : decode cX8_book 84 = .ok (.aload_n 0, 1) := by decide +kernel
theorem dX8_book_85 : decode cX8_book 85 = .ok (.getfield 126, 3) := by decide +kernel
theorem dX8_book_88 : decode cX8_book 88 = .ok (.iload_n 3, 1) := by decide +kernel
theorem dX8_book_89 : decode cX8_book 89 = .ok (.iastore, 1) := by decide +kernel
theorem dX8_book_90 : decode cX8_book 90 = .ok (.aload_n 0, 1) := by decide +kernel
theorem dX8_book_91 : decode cX8_book 91 = .ok (.dup, 1) := by decide +kernel
theorem dX8_book_92 : decode cX8_book 92 = .ok (.getfield 126, 3) := by decide +kernel
theorem dX8_book_95 : decode cX8_book 95 = .ok (.iconst 1, 1) := by decide +kernel
theorem dX8_book_96 : decode cX8_book 96 = .ok (.iadd, 1) := by decide +kernel
theorem dX8_book_97 : decode cX8_book 97 = .ok (.putfield 126, 3) := by decide +kernel
theorem dX8_book_100 : decode cX8_book 100 = .ok (.aload_n 0, 1) := by decide +kernel
theorem dX8_book_101 : decode cX8_book 101 = .ok (.getfield 126, 3) := by decide +kernel
theorem dX8_book_104 : decode cX8_book 104 = .ok (.ireturn, 1) := by decide +kernel
theorem oM_book : zok yX8_book 3 := by decide +kernel
