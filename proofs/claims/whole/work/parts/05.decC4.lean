theorem dX7_shift_0 : decode cX7_shift 0 = .ok (.aload_n 0, 1) := by decide +kernel
theorem dX7_shift_1 : decode cX7_shift 1 = .ok (.getfield 69, 3) := by decide +kernel
theorem dX7_shift_4 : decode cX7_shift 4 = .ok (.iload_n 1, 1) := by decide +kernel
theorem dX7_shift_5 : decode cX7_shift 5 = .ok (.invokevirtual 223, 3) := by decide +kernel
theorem dX7_shift_8 : decode cX7_shift 8 = .ok (.ifCond .eq 14, 3) := by decide +kernel
theorem dX7_shift_11 : decode cX7_shift 11 = .ok (.aload_n 0, 1) := by decide +kernel
theorem dX7_shift_12 : decode cX7_shift 12 = .ok (.getfield 69, 3) := by decide +kernel
theorem dX7_shift_15 : decode cX7_shift 15 = .ok (.iload_n 3, 1) := by decide +kernel
theorem dX7_shift_16 : decode cX7_shift 16 = .ok (.invokevirtual 223, 3) := by decide +kernel
theorem dX7_shift_19 : decode cX7_shift 19 = .ok (.ifCond .ne 5, 3) := by decide +kernel
theorem dX7_shift_22 : decode cX7_shift 22 = .ok (.iconst (-1), 1) := by decide +kernel
theorem dX7_shift_23 : decode cX7_shift 23 = .ok (.ireturn, 1) := by decide +kernel
theorem dX7_shift_24 : decode cX7_shift 24 = .ok (.aload_n 0, 1) := by decide +kernel
theorem dX7_shift_25 : decode cX7_shift 25 = .ok (.getfield 69, 3) := by decide +kernel
theorem dX7_shift_28 : decode cX7_shift 28 = .ok (.iload_n 1, 1) := by decide +kernel
theorem dX7_shift_29 : decode cX7_shift 29 = .ok (.invokevirtual 224, 3) := by decide +kernel
theorem dX7_shift_32 : decode cX7_shift 32 = .ok (.ifCond .eq 14, 3) := by decide +kernel
theorem dX7_shift_35 : decode cX7_shift 35 = .ok (.aload_n 0, 1) := by decide +kernel
theorem dX7_shift_36 : decode cX7_shift 36 = .ok (.getfield 69, 3) := by decide +kernel
theorem dX7_shift_39 : decode cX7_shift 39 = .ok (.iload_n 3, 1) := by decide +kernel
theorem dX7_shift_40 : decode cX7_shift 40 = .ok (.invokevirtual 224, 3) := by decide +kernel
theorem dX7_shift_43 : decode cX7_shift 43 = .ok (.ifCond .ne 6, 3) := by decide +kernel
theorem dX7_shift_46 : decode cX7_shift 46 = .ok (.bipush (-11), 2) := by decide +kernel
theorem dX7_shift_48 : decode cX7_shift 48 = .ok (.ireturn, 1) := by decide +kernel
theorem dX7_shift_49 : decode cX7_shift 49 = .ok (.aload_n 0, 1) := by decide +kernel
theorem dX7_shift_50 : decode cX7_shift 50 = .ok (.getfield 69, 3) := by decide +kernel
theorem dX7_shift_53 : decode cX7_shift 53 = .ok (.getfield 227, 3) := by decide +kernel
theorem dX7_shift_56 : decode cX7_shift 56 = .ok (.iload_n 1, 1) := by decide +kernel
theorem dX7_shift_57 : decode cX7_shift 57 = .ok (.iaload, 1) := by decide +kernel
theorem dX7_shift_58 : decode cX7_shift 58 = .ok (.aload_n 0, 1) := by decide +kernel
theorem dX7_shift_59 : decode cX7_shift 59 = .ok (.getfield 69, 3) := by decide +kernel
theorem dX7_shift_62 : decode cX7_shift 62 = .ok (.getfield 227, 3) := by decide +kernel
theorem dX7_shift_65 : decode cX7_shift 65 = .ok (.iload_n 3, 1) := by decide +kernel
theorem dX7_shift_66 : decode cX7_shift 66 = .ok (.iaload, 1) := by decide +kernel
theorem dX7_shift_67 : decode cX7_shift 67 = .ok (.if_icmp .eq 6, 3) := by decide +kernel
theorem dX7_shift_70 : decode cX7_shift 70 = .ok (.bipush (-12), 2) := by decide +kernel
theorem dX7_shift_72 : decode cX7_shift 72 = .ok (.ireturn, 1) := by decide +kernel
theorem dX7_shift_73 : decode cX7_shift 73 = .ok (.aload_n 0, 1) := by decide +kernel
theorem dX7_shift_74 : decode cX7_shift 74 = .ok (.getfield 69, 3) := by decide +kernel
theorem dX7_shift_77 : decode cX7_shift 77 = .ok (.iload_n 1, 1) := by decide +kernel
theorem dX7_shift_78 : decode cX7_shift 78 = .ok (.iload_n 2, 1) := by decide +kernel
theorem dX7_shift_79 : decode cX7_shift 79 = .ok (.iload 5, 2) := by decide +kernel
theorem dX7_shift_81 : decode cX7_shift 81 = .ok (.invokevirtual 261, 3) := by decide +kernel
theorem dX7_shift_84 : decode cX7_shift 84 = .ok (.ifCond .eq 18, 3) := by decide +kernel
theorem dX7_shift_87 : decode cX7_shift 87 = .ok (.aload_n 0, 1) := by decide +kernel
theorem dX7_shift_88 : decode cX7_shift 88 = .ok (.getfield 69, 3) := by decide +kernel
theorem dX7_shift_91 : decode cX7_shift 91 = .ok (.iload_n 3, 1) := by decide +kernel
theorem dX7_shift_92 : decode cX7_shift 92 = .ok (.iload 4, 2) := by decide +kernel
theorem dX7_shift_94 : decode cX7_shift 94 = .ok (.iload 5, 2) := by decide +kernel
theorem dX7_shift_96 : decode cX7_shift 96 = .ok (.invokevirtual 261, 3) := by decide +kernel
theorem dX7_shift_99 : decode cX7_shift 99 = .ok (.ifCond .ne 6, 3) := by decide +kernel
theorem dX7_shift_102 : decode cX7_shift 102 = .ok (.bipush (-13), 2) := by decide +kernel
theorem dX7_shift_104 : decode cX7_shift 104 = .ok (.ireturn, 1) := by decide +kernel
theorem dX7_shift_105 : decode cX7_shift 105 = .ok (.aload_n 0, 1) := by decide +kernel
theorem dX7_shift_106 : decode cX7_shift 106 = .ok (.getfield 69, 3) := by decide +kernel
theorem dX7_shift_109 : decode cX7_shift 109 = .ok (.iload_n 1, 1) := by decide +kernel
theorem dX7_shift_110 : decode cX7_shift 110 = .ok (.iload_n 2, 1) := by decide +kernel
theorem dX7_shift_111 : decode cX7_shift 111 = .ok (.iload_n 3, 1) := by decide +kernel
theorem dX7_shift_112 : decode cX7_shift 112 = .ok (.iload 4, 2) := by decide +kernel
theorem dX7_shift_114 : decode cX7_shift 114 = .ok (.iload 5, 2) := by decide +kernel
theorem dX7_shift_116 : decode cX7_shift 116 = .ok (.invokevirtual 265, 3) := by decide +kernel
theorem dX7_shift_119 : decode cX7_shift 119 = .ok (.iload 5, 2) := by decide +kernel
theorem dX7_shift_121 : decode cX7_shift 121 = .ok (.ireturn, 1) := by decide +kernel
theorem oG_shift : zok yX7_shift 5 := by decide +kernel
theorem dX5_hasPlaces_0 : decode cX5_hasPlaces 0 = .ok (.iload_n 3, 1) := by decide +kernel
theorem dX5_hasPlaces_1 : decode cX5_hasPlaces 1 = .ok (.ifCond .lt 23, 3) := by decide +kernel
theorem dX5_hasPlaces_4 : decode cX5_hasPlaces 4 = .ok (.iload_n 2, 1) := by decide +kernel
theorem dX5_hasPlaces_5 : decode cX5_hasPlaces 5 = .ok (.ifCond .lt 19, 3) := by decide +kernel
theorem dX5_hasPlaces_8 : decode cX5_hasPlaces 8 = .ok (.iload_n 2, 1) := by decide +kernel
theorem dX5_hasPlaces_9 : decode cX5_hasPlaces 9 = .ok (.aload_n 0, 1) := by decide +kernel
theorem dX5_hasPlaces_10 : decode cX5_hasPlaces 10 = .ok (.getfield 13, 3) := by decide +kernel
theorem dX5_hasPlaces_13 : decode cX5_hasPlaces 13 = .ok (.iload_n 1, 1) := by decide +kernel
theorem dX5_hasPlaces_14 : decode cX5_hasPlaces 14 = .ok (.iaload, 1) := by decide +kernel
theorem dX5_hasPlaces_15 : decode cX5_hasPlaces 15 = .ok (.iload_n 3, 1) := by decide +kernel
theorem dX5_hasPlaces_16 : decode cX5_hasPlaces 16 = .ok (.isub, 1) := by decide +kernel
theorem dX5_hasPlaces_17 : decode cX5_hasPlaces 17 = .ok (.if_icmp .gt 7, 3) := by decide +kernel
theorem dX5_hasPlaces_20 : decode cX5_hasPlaces 20 = .ok (.iconst 1, 1) := by decide +kernel
theorem dX5_hasPlaces_21 : decode cX5_hasPlaces 21 = .ok (.goto 4, 3) := by decide +kernel
theorem dX5_hasPlaces_24 : decode cX5_hasPlaces 24 = .ok (.iconst 0, 1) := by decide +kernel
theorem dX5_hasPlaces_25 : decode cX5_hasPlaces 25 = .ok (.ireturn, 1) := by decide +kernel
theorem oK_hasPlaces : zok yX5_hasPlaces 3 := by decide +kernel
theorem dX5_copy_0 : decode cX5_copy 0 = .ok (.aload_n 0, 1) := by decide +kernel
theorem dX5_copy_1 : decode cX5_copy 1 = .ok (.getfield 16, 3) := by decide +kernel
theorem dX5_copy_4 : decode cX5_copy 4 = .ok (.iload_n 1, 1) := by decide +kernel
theorem dX5_copy_5 : decode cX5_copy 5 = .ok (.bipush 60, 2) := by decide +kernel
theorem dX5_copy_7 : decode cX5_copy 7 = .ok (.imul, 1) := by decide +kernel
theorem dX5_copy_8 : decode cX5_copy 8 = .ok (.iload_n 2, 1) := by decide +kernel
theorem dX5_copy_9 : decode cX5_copy 9 = .ok (.iadd, 1) := by decide +kernel
theorem dX5_copy_10 : decode cX5_copy 10 = .ok (.aload_n 0, 1) := by decide +kernel
theorem dX5_copy_11 : decode cX5_copy 11 = .ok (.getfield 16, 3) := by decide +kernel
theorem dX5_copy_14 : decode cX5_copy 14 = .ok (.iload_n 3, 1) := by decide +kernel
theorem dX5_copy_15 : decode cX5_copy 15 = .ok (.bipush 60, 2) := by decide +kernel
theorem dX5_copy_17 : decode cX5_copy 17 = .ok (.imul, 1) := by decide +kernel
theorem dX5_copy_18 : decode cX5_copy 18 = .ok (.iload 4, 2) := by decide +kernel
theorem dX5_copy_20 : decode cX5_copy 20 = .ok (.iadd, 1) := by decide +kernel
theorem dX5_copy_21 : decode cX5_copy 21 = .ok (.iload 5, 2) := by decide +kernel
theorem dX5_copy_23 : decode cX5_copy 23 = .ok (.invokestatic 24, 3) := by decide +kernel
theorem dX5_copy_26 : decode cX5_copy 26 = .ok (.return_, 1) := by decide +kernel
theorem oK_copy : zok yX5_copy 5 := by decide +kernel
