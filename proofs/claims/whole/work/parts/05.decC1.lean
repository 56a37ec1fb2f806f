theorem dX6_readTest_0 : decode cX6_readTest 0 = .ok (.aload_n 0, 1) := by decide +kernel
theorem dX6_readTest_1 : decode cX6_readTest 1 = .ok (.getfield 24, 3) := by decide +kernel
theorem dX6_readTest_4 : decode cX6_readTest 4 = .ok (.aload_n 0, 1) := by decide +kernel
theorem dX6_readTest_5 : decode cX6_readTest 5 = .ok (.getfield 15, 3) := by decide +kernel
theorem dX6_readTest_8 : decode cX6_readTest 8 = .ok (.if_icmp .ge 21, 3) := by decide +kernel
theorem dX6_readTest_11 : decode cX6_readTest 11 = .ok (.ldc 72, 2) := by decide +kernel
theorem dX6_readTest_13 : decode cX6_readTest 13 = .ok (.aload_n 0, 1) := by decide +kernel
theorem dX6_readTest_14 : decode cX6_readTest 14 = .ok (.getfield 9, 3) := by decide +kernel
theorem dX6_readTest_17 : decode cX6_readTest 17 = .ok (.aload_n 0, 1) := by decide +kernel
theorem dX6_readTest_18 : decode cX6_readTest 18 = .ok (.getfield 24, 3) := by decide +kernel
theorem dX6_readTest_21 : decode cX6_readTest 21 = .ok (.iaload, 1) := by decide +kernel
theorem dX6_readTest_22 : decode cX6_readTest 22 = .ok (.i2c, 1) := by decide +kernel
theorem dX6_readTest_23 : decode cX6_readTest 23 = .ok (.invokevirtual 74, 3) := by decide +kernel
theorem dX6_readTest_26 : decode cX6_readTest 26 = .ok (.goto 4, 3) := by decide +kernel
theorem dX6_readTest_29 : decode cX6_readTest 29 = .ok (.iconst (-1), 1) := by decide +kernel
theorem dX6_readTest_30 : decode cX6_readTest 30 = .ok (.istore_n 2, 1) := by decide +kernel
theorem dX6_readTest_31 : decode cX6_readTest 31 = .ok (.iload_n 2, 1) := by decide +kernel
theorem dX6_readTest_32 : decode cX6_readTest 32 = .ok (.ifCond .ge 5, 3) := by decide +kernel
theorem dX6_readTest_35 : decode cX6_readTest 35 = .ok (.iconst 0, 1) := by decide +kernel
theorem dX6_readTest_36 : decode cX6_readTest 36 = .ok (.ireturn, 1) := by decide +kernel
theorem dX6_readTest_37 : decode cX6_readTest 37 = .ok (.aload_n 0, 1) := by decide +kernel
theorem dX6_readTest_38 : decode cX6_readTest 38 = .ok (.dup, 1) := by decide +kernel
theorem dX6_readTest_39 : decode cX6_readTest 39 = .ok (.getfield 24, 3) := by decide +kernel
theorem dX6_readTest_42 : decode cX6_readTest 42 = .ok (.iconst 1, 1) := by decide +kernel
theorem dX6_readTest_43 : decode cX6_readTest 43 = .ok (.iadd, 1) := by decide +kernel
theorem dX6_readTest_44 : decode cX6_readTest 44 = .ok (.putfield 24, 3) := by decide +kernel
theorem dX6_readTest_47 : decode cX6_readTest 47 = .ok (.aload_n 0, 1) := by decide +kernel
theorem dX6_readTest_48 : decode cX6_readTest 48 = .ok (.bipush 60, 2) := by decide +kernel
theorem dX6_readTest_50 : decode cX6_readTest 50 = .ok (.invokevirtual 35, 3) := by decide +kernel
theorem dX6_readTest_53 : decode cX6_readTest 53 = .ok (.ifCond .eq 7, 3) := by decide +kernel
theorem dX6_readTest_56 : decode cX6_readTest 56 = .ok (.iconst 0, 1) := by decide +kernel
theorem dX6_readTest_57 : decode cX6_readTest 57 = .ok (.goto 17, 3) := by decide +kernel
theorem dX6_readTest_60 : decode cX6_readTest 60 = .ok (.aload_n 0, 1) := by decide +kernel
theorem dX6_readTest_61 : decode cX6_readTest 61 = .ok (.bipush 61, 2) := by decide +kernel
theorem dX6_readTest_63 : decode cX6_readTest 63 = .ok (.invokevirtual 35, 3) := by decide +kernel
theorem dX6_readTest_66 : decode cX6_readTest 66 = .ok (.ifCond .eq 7, 3) := by decide +kernel
theorem dX6_readTest_69 : decode cX6_readTest 69 = .ok (.iconst 1, 1) := by decide +kernel
theorem dX6_readTest_70 : decode cX6_readTest 70 = .ok (.goto 4, 3) := by decide +kernel
theorem dX6_readTest_73 : decode cX6_readTest 73 = .ok (.iconst 2, 1) := by decide +kernel
theorem dX6_readTest_74 : decode cX6_readTest 74 = .ok (.istore_n 3, 1) := by decide +kernel
theorem dX6_readTest_75 : decode cX6_readTest 75 = .ok (.iload_n 3, 1) := by decide +kernel
theorem dX6_readTest_76 : decode cX6_readTest 76 = .ok (.iconst 2, 1) := by decide +kernel
theorem dX6_readTest_77 : decode cX6_readTest 77 = .ok (.if_icmp .ne 14, 3) := by decide +kernel
theorem dX6_readTest_80 : decode cX6_readTest 80 = .ok (.aload_n 0, 1) := by decide +kernel
theorem dX6_readTest_81 : decode cX6_readTest 81 = .ok (.bipush 62, 2) := by decide +kernel
theorem dX6_readTest_83 : decode cX6_readTest 83 = .ok (.invokevirtual 35, 3) := by decide +kernel
theorem dX6_readTest_86 : decode cX6_readTest 86 = .ok (.ifCond .ne 5, 3) := by decide +kernel
theorem dX6_readTest_89 : decode cX6_readTest 89 = .ok (.iconst 0, 1) := by decide +kernel
theorem dX6_readTest_90 : decode cX6_readTest 90 = .ok (.ireturn, 1) := by decide +kernel
theorem dX6_readTest_91 : decode cX6_readTest 91 = .ok (.aload_n 0, 1) := by decide +kernel
theorem dX6_readTest_92 : decode cX6_readTest 92 = .ok (.dup, 1) := by decide +kernel
theorem dX6_readTest_93 : decode cX6_readTest 93 = .ok (.getfield 24, 3) := by decide +kernel
theorem dX6_readTest_96 : decode cX6_readTest 96 = .ok (.iconst 1, 1) := by decide +kernel
theorem dX6_readTest_97 : decode cX6_readTest 97 = .ok (.iadd, 1) := by decide +kernel
theorem dX6_readTest_98 : decode cX6_readTest 98 = .ok (.putfield 24, 3) := by decide +kernel
theorem dX6_readTest_101 : decode cX6_readTest 101 = .ok (.aload_n 0, 1) := by decide +kernel
theorem dX6_readTest_102 : decode cX6_readTest 102 = .ok (.invokevirtual 44, 3) := by decide +kernel
theorem dX6_readTest_105 : decode cX6_readTest 105 = .ok (.ifCond .ne 5, 3) := by decide +kernel
theorem dX6_readTest_108 : decode cX6_readTest 108 = .ok (.iconst 0, 1) := by decide +kernel
theorem dX6_readTest_109 : decode cX6_readTest 109 = .ok (.ireturn, 1) := by decide +kernel
theorem dX6_readTest_110 : decode cX6_readTest 110 = .ok (.aload_n 1, 1) := by decide +kernel
theorem dX6_readTest_111 : decode cX6_readTest 111 = .ok (.iload_n 3, 1) := by decide +kernel
theorem dX6_readTest_112 : decode cX6_readTest 112 = .ok (.iload_n 2, 1) := by decide +kernel
theorem dX6_readTest_113 : decode cX6_readTest 113 = .ok (.aload_n 0, 1) := by decide +kernel
theorem dX6_readTest_114 : decode cX6_readTest 114 = .ok (.getfield 48, 3) := by decide +kernel
theorem dX6_readTest_117 : decode cX6_readTest 117 = .ok (.invokevirtual 62, 3) := by decide +kernel
theorem dX6_readTest_120 : decode cX6_readTest 120 = .ok (.iconst 1, 1) := by decide +kernel
theorem dX6_readTest_121 : decode cX6_readTest 121 = .ok (.ireturn, 1) := by decide +kernel
theorem oT_readTest : zok yX6_readTest 1 := by decide +kernel
def yJS_indexOf : MethodName := ⟨"java/lang/String", "indexOf", "(I)I"⟩
theorem dJ13_indexOf_0 : decode prog_13_method_79_code 0 = .ok (.aload_n 0, 1) := by decide +kernel
theorem dJ13_indexOf_1 : decode prog_13_method_79_code 1 = .ok (.iload_n 1, 1) := by decide +kernel
theorem dJ13_indexOf_2 : decode prog_13_method_79_code 2 = .ok (.iconst 0, 1) := by decide +kernel
theorem dJ13_indexOf_3 : decode prog_13_method_79_code 3 = .ok (.invokevirtual 633, 3) := by decide +kernel
theorem dJ13_indexOf_6 : decode prog_13_method_79_code 6 = .ok (.ireturn, 1) := by decide +kernel
theorem oS_indexOf : zok yJS_indexOf 1 := by decide +kernel
def yJS_indexOf2 : MethodName := ⟨"java/lang/String", "indexOf", "(II)I"⟩
theorem dJ13_indexOf2_0 : decode prog_13_method_80_code 0 = .ok (.aload_n 0, 1) := by decide +kernel
theorem dJ13_indexOf2_1 : decode prog_13_method_80_code 1 = .ok (.invokevirtual 492, 3) := by decide +kernel
theorem dJ13_indexOf2_4 : decode prog_13_method_80_code 4 = .ok (.ifCond .eq 19, 3) := by decide +kernel
theorem dJ13_indexOf2_7 : decode prog_13_method_80_code 7 = .ok (.aload_n 0, 1) := by decide +kernel
theorem dJ13_indexOf2_8 : decode prog_13_method_80_code 8 = .ok (.getfield 9, 3) := by decide +kernel
theorem dJ13_indexOf2_11 : decode prog_13_method_80_code 11 = .ok (.iload_n 1, 1) := by decide +kernel
theorem dJ13_indexOf2_12 : decode prog_13_method_80_code 12 = .ok (.iload_n 2, 1) := by decide +kernel
theorem dJ13_indexOf2_13 : decode prog_13_method_80_code 13 = .ok (.aload_n 0, 1) := by decide +kernel
theorem dJ13_indexOf2_14 : decode prog_13_method_80_code 14 = .ok (.invokevirtual 505, 3) := by decide +kernel
theorem dJ13_indexOf2_17 : decode prog_13_method_80_code 17 = .ok (.invokestatic 637, 3) := by decide +kernel
theorem dJ13_indexOf2_20 : decode prog_13_method_80_code 20 = .ok (.goto 16, 3) := by decide +kernel
theorem dJ13_indexOf2_23 : decode prog_13_method_80_code 23 = .ok (.aload_n 0, 1) := by decide +kernel
theorem dJ13_indexOf2_24 : decode prog_13_method_80_code 24 = .ok (.getfield 9, 3) := by decide +kernel
theorem dJ13_indexOf2_27 : decode prog_13_method_80_code 27 = .ok (.iload_n 1, 1) := by decide +kernel
theorem dJ13_indexOf2_28 : decode prog_13_method_80_code 28 = .ok (.iload_n 2, 1) := by decide +kernel
theorem dJ13_indexOf2_29 : decode prog_13_method_80_code 29 = .ok (.aload_n 0, 1) := by decide +kernel
theorem dJ13_indexOf2_30 : decode prog_13_method_80_code 30 = .ok (.invokevirtual 505, 3) := by decide +kernel
theorem dJ13_indexOf2_33 : decode prog_13_method_80_code 33 = .ok (.invokestatic 640, 3) := by decide +kernel
theorem dJ13_indexOf2_36 : decode prog_13_method_80_code 36 = .ok (.ireturn, 1) := by decide +kernel
theorem oS_indexOf2 : zok yJS_indexOf2 2 := by decide +kernel
def yJL_indexOf : MethodName := ⟨"java/lang/StringLatin1", "indexOf", "([BIII)I"⟩
theorem dJ14_indexOf_0 : decode prog_14_method_22_code 0 = .ok (.iload_n 1, 1) := by decide +kernel
theorem dJ14_indexOf_1 : decode prog_14_method_22_code 1 = .ok (.invokestatic 88, 3) := by decide +kernel
theorem dJ14_indexOf_4 : decode prog_14_method_22_code 4 = .ok (.ifCond .ne 5, 3) := by decide +kernel
theorem dJ14_indexOf_7 : decode prog_14_method_22_code 7 = .ok (.iconst (-1), 1) := by decide +kernel
theorem dJ14_indexOf_8 : decode prog_14_method_22_code 8 = .ok (.ireturn, 1) := by decide +kernel
theorem dJ14_indexOf_9 : decode prog_14_method_22_code 9 = .ok (.iload_n 2, 1) := by decide +kernel
theorem dJ14_indexOf_10 : decode prog_14_method_22_code 10 = .ok (.iconst 0, 1) := by decide +kernel
theorem dJ14_indexOf_11 : decode prog_14_method_22_code 11 = .ok (.invokestatic 92, 3) := by decide +kernel
theorem dJ14_indexOf_14 : decode prog_14_method_22_code 14 = .ok (.istore_n 2, 1) := by decide +kernel
theorem dJ14_indexOf_15 : decode prog_14_method_22_code 15 = .ok (.iload_n 3, 1) := by decide +kernel
theorem dJ14_indexOf_16 : decode prog_14_method_22_code 16 = .ok (.aload_n 0, 1) := by decide +kernel
theorem dJ14_indexOf_17 : decode prog_14_method_22_code 17 = .ok (.arraylength, 1) := by decide +kernel
theorem dJ14_indexOf_18 : decode prog_14_method_22_code 18 = .ok (.invokestatic 38, 3) := by decide +kernel
theorem dJ14_indexOf_21 : decode prog_14_method_22_code 21 = .ok (.istore_n 3, 1) := by decide +kernel
theorem dJ14_indexOf_22 : decode prog_14_method_22_code 22 = .ok (.iload_n 2, 1) := by decide +kernel
theorem dJ14_indexOf_23 : decode prog_14_method_22_code 23 = .ok (.iload_n 3, 1) := by decide +kernel
theorem dJ14_indexOf_24 : decode prog_14_method_22_code 24 = .ok (.if_icmp .lt 5, 3) := by decide +kernel
theorem dJ14_indexOf_27 : decode prog_14_method_22_code 27 = .ok (.iconst (-1), 1) := by decide +kernel
theorem dJ14_indexOf_28 : decode prog_14_method_22_code 28 = .ok (.ireturn, 1) := by decide +kernel
theorem dJ14_indexOf_29 : decode prog_14_method_22_code 29 = .ok (.aload_n 0, 1) := by decide +kernel
theorem dJ14_indexOf_30 : decode prog_14_method_22_code 30 = .ok (.iload_n 1, 1) := by decide +kernel
theorem dJ14_indexOf_31 : decode prog_14_method_22_code 31 = .ok (.iload_n 2, 1) := by decide +kernel
theorem dJ14_indexOf_32 : decode prog_14_method_22_code 32 = .ok (.iload_n 3, 1) := by decide +kernel
theorem dJ14_indexOf_33 : decode prog_14_method_22_code 33 = .ok (.invokestatic 95, 3) := by decide +kernel
theorem dJ14_indexOf_36 : decode prog_14_method_22_code 36 = .ok (.ireturn, 1) := by decide +kernel
theorem oL_indexOf : zok yJL_indexOf 4 := by decide +kernel
def yJL_canEncode : MethodName := ⟨"java/lang/StringLatin1", "canEncode", "(I)Z"⟩
theorem dJ14_canEncode_0 : decode prog_14_method_4_code 0 = .ok (.iload_n 0, 1) := by decide +kernel
theorem dJ14_canEncode_1 : decode prog_14_method_4_code 1 = .ok (.ifCond .lt 14, 3) := by decide +kernel
theorem dJ14_canEncode_4 : decode prog_14_method_4_code 4 = .ok (.iload_n 0, 1) := by decide +kernel
theorem dJ14_canEncode_5 : decode prog_14_method_4_code 5 = .ok (.sipush 255, 3) := by decide +kernel
theorem dJ14_canEncode_8 : decode prog_14_method_4_code 8 = .ok (.if_icmp .gt 7, 3) := by decide +kernel
theorem dJ14_canEncode_11 : decode prog_14_method_4_code 11 = .ok (.iconst 1, 1) := by decide +kernel
theorem dJ14_canEncode_12 : decode prog_14_method_4_code 12 = .ok (.goto 4, 3) := by decide +kernel
theorem dJ14_canEncode_15 : decode prog_14_method_4_code 15 = .ok (.iconst 0, 1) := by decide +kernel
theorem dJ14_canEncode_16 : decode prog_14_method_4_code 16 = .ok (.ireturn, 1) := by decide +kernel
theorem oL_canEncode : zok yJL_canEncode 1 := by decide +kernel
def yJL_indexOfChar : MethodName := ⟨"java/lang/StringLatin1", "indexOfChar", "([BIII)I"⟩
theorem dJ14_indexOfChar_0 : decode prog_14_method_23_code 0 = .ok (.iload_n 1, 1) := by decide +kernel
theorem dJ14_indexOfChar_1 : decode prog_14_method_23_code 1 = .ok (.i2b, 1) := by decide +kernel
theorem dJ14_indexOfChar_2 : decode prog_14_method_23_code 2 = .ok (.istore 4, 2) := by decide +kernel
theorem dJ14_indexOfChar_4 : decode prog_14_method_23_code 4 = .ok (.iload_n 2, 1) := by decide +kernel
theorem dJ14_indexOfChar_5 : decode prog_14_method_23_code 5 = .ok (.istore 5, 2) := by decide +kernel
theorem dJ14_indexOfChar_7 : decode prog_14_method_23_code 7 = .ok (.iload 5, 2) := by decide +kernel
theorem dJ14_indexOfChar_9 : decode prog_14_method_23_code 9 = .ok (.iload_n 3, 1) := by decide +kernel
theorem dJ14_indexOfChar_10 : decode prog_14_method_23_code 10 = .ok (.if_icmp .ge 21, 3) := by decide +kernel
theorem dJ14_indexOfChar_13 : decode prog_14_method_23_code 13 = .ok (.aload_n 0, 1) := by decide +kernel
theorem dJ14_indexOfChar_14 : decode prog_14_method_23_code 14 = .ok (.iload 5, 2) := by decide +kernel
theorem dJ14_indexOfChar_16 : decode prog_14_method_23_code 16 = .ok (.baload, 1) := by decide +kernel
theorem dJ14_indexOfChar_17 : decode prog_14_method_23_code 17 = .ok (.iload 4, 2) := by decide +kernel
theorem dJ14_indexOfChar_19 : decode prog_14_method_23_code 19 = .ok (.if_icmp .ne 6, 3) := by decide +kernel
theorem dJ14_indexOfChar_22 : decode prog_14_method_23_code 22 = .ok (.iload 5, 2) := by decide +kernel
theorem dJ14_indexOfChar_24 : decode prog_14_method_23_code 24 = .ok (.ireturn, 1) := by decide +kernel
theorem dJ14_indexOfChar_25 : decode prog_14_method_23_code 25 = .ok (.iinc 5 1, 3) := by decide +kernel
theorem dJ14_indexOfChar_28 : decode prog_14_method_23_code 28 = .ok (.goto (-21), 3) := by decide +kernel
theorem dJ14_indexOfChar_31 : decode prog_14_method_23_code 31 = .ok (.iconst (-1), 1) := by decide +kernel
theorem dJ14_indexOfChar_32 : decode prog_14_method_23_code 32 = .ok (.ireturn, 1) := by decide +kernel
theorem oL_indexOfChar : zok yJL_indexOfChar 4 := by decide +kernel
theorem dX7_told_0 : decode cX7_told 0 = .ok (.iload_n 1, 1) := by decide +kernel
theorem dX7_told_1 : decode cX7_told 1 = .ok (.lookupswitch 43 #[(0, 27), (1, 35)], 27) := by decide +kernel
theorem dX7_told_28 : decode cX7_told 28 = .ok (.aload_n 0, 1) := by decide +kernel
theorem dX7_told_29 : decode cX7_told 29 = .ok (.getfield 12, 3) := by decide +kernel
theorem dX7_told_32 : decode cX7_told 32 = .ok (.getfield 133, 3) := by decide +kernel
theorem dX7_told_35 : decode cX7_told 35 = .ok (.ireturn, 1) := by decide +kernel
theorem dX7_told_36 : decode cX7_told 36 = .ok (.aload_n 0, 1) := by decide +kernel
theorem dX7_told_37 : decode cX7_told 37 = .ok (.invokevirtual 136, 3) := by decide +kernel
theorem dX7_told_40 : decode cX7_told 40 = .ok (.getfield 140, 3) := by decide +kernel
theorem dX7_told_43 : decode cX7_told 43 = .ok (.ireturn, 1) := by decide +kernel
theorem dX7_told_44 : decode cX7_told 44 = .ok (.iconst (-1), 1) := by decide +kernel
theorem dX7_told_45 : decode cX7_told 45 = .ok (.ireturn, 1) := by decide +kernel
theorem oG_told : zok yX7_told 1 := by decide +kernel
theorem dX7_held_0 : decode cX7_held 0 = .ok (.aload_n 0, 1) := by decide +kernel
theorem dX7_held_1 : decode cX7_held 1 = .ok (.getfield 12, 3) := by decide +kernel
theorem dX7_held_4 : decode cX7_held 4 = .ok (.getfield 130, 3) := by decide +kernel
theorem dX7_held_7 : decode cX7_held 7 = .ok (.ifCond .lt 30, 3) := by decide +kernel
theorem dX7_held_10 : decode cX7_held 10 = .ok (.aload_n 0, 1) := by decide +kernel
theorem dX7_held_11 : decode cX7_held 11 = .ok (.getfield 12, 3) := by decide +kernel
theorem dX7_held_14 : decode cX7_held 14 = .ok (.getfield 130, 3) := by decide +kernel
theorem dX7_held_17 : decode cX7_held 17 = .ok (.bipush 6, 2) := by decide +kernel
theorem dX7_held_19 : decode cX7_held 19 = .ok (.if_icmp .ge 18, 3) := by decide +kernel
theorem dX7_held_22 : decode cX7_held 22 = .ok (.aload_n 0, 1) := by decide +kernel
theorem dX7_held_23 : decode cX7_held 23 = .ok (.getfield 33, 3) := by decide +kernel
theorem dX7_held_26 : decode cX7_held 26 = .ok (.aload_n 0, 1) := by decide +kernel
theorem dX7_held_27 : decode cX7_held 27 = .ok (.getfield 12, 3) := by decide +kernel
theorem dX7_held_30 : decode cX7_held 30 = .ok (.getfield 130, 3) := by decide +kernel
theorem dX7_held_33 : decode cX7_held 33 = .ok (.aaload, 1) := by decide +kernel
theorem dX7_held_34 : decode cX7_held 34 = .ok (.goto 7, 3) := by decide +kernel
theorem dX7_held_37 : decode cX7_held 37 = .ok (.aload_n 0, 1) := by decide +kernel
theorem dX7_held_38 : decode cX7_held 38 = .ok (.getfield 38, 3) := by decide +kernel
theorem dX7_held_41 : decode cX7_held 41 = .ok (.areturn, 1) := by decide +kernel
theorem oG_held : zok yX7_held 0 := by decide +kernel
theorem dX7_doubt_0 : decode cX7_doubt 0 = .ok (.aload_n 0, 1) := by decide +kernel
theorem dX7_doubt_1 : decode cX7_doubt 1 = .ok (.getfield 12, 3) := by decide +kernel
theorem dX7_doubt_4 : decode cX7_doubt 4 = .ok (.iload_n 1, 1) := by decide +kernel
theorem dX7_doubt_5 : decode cX7_doubt 5 = .ok (.invokevirtual 81, 3) := by decide +kernel
theorem dX7_doubt_8 : decode cX7_doubt 8 = .ok (.ifCond .eq 21, 3) := by decide +kernel
theorem dX7_doubt_11 : decode cX7_doubt 11 = .ok (.aload_n 0, 1) := by decide +kernel
theorem dX7_doubt_12 : decode cX7_doubt 12 = .ok (.getfield 12, 3) := by decide +kernel
theorem dX7_doubt_15 : decode cX7_doubt 15 = .ok (.iload_n 2, 1) := by decide +kernel
theorem dX7_doubt_16 : decode cX7_doubt 16 = .ok (.invokevirtual 81, 3) := by decide +kernel
theorem dX7_doubt_19 : decode cX7_doubt 19 = .ok (.ifCond .eq 10, 3) := by decide +kernel
theorem dX7_doubt_22 : decode cX7_doubt 22 = .ok (.iload_n 3, 1) := by decide +kernel
theorem dX7_doubt_23 : decode cX7_doubt 23 = .ok (.invokestatic 85, 3) := by decide +kernel
theorem dX7_doubt_26 : decode cX7_doubt 26 = .ok (.ifCond .ne 7, 3) := by decide +kernel
theorem dX7_doubt_29 : decode cX7_doubt 29 = .ok (.sipush (-1001), 3) := by decide +kernel
theorem dX7_doubt_32 : decode cX7_doubt 32 = .ok (.ireturn, 1) := by decide +kernel
theorem dX7_doubt_33 : decode cX7_doubt 33 = .ok (.iload_n 1, 1) := by decide +kernel
theorem dX7_doubt_34 : decode cX7_doubt 34 = .ok (.iload_n 2, 1) := by decide +kernel
theorem dX7_doubt_35 : decode cX7_doubt 35 = .ok (.if_icmp .ne 7, 3) := by decide +kernel
theorem dX7_doubt_38 : decode cX7_doubt 38 = .ok (.sipush (-1002), 3) := by decide +kernel
theorem dX7_doubt_41 : decode cX7_doubt 41 = .ok (.ireturn, 1) := by decide +kernel
theorem dX7_doubt_42 : decode cX7_doubt 42 = .ok (.aload_n 0, 1) := by decide +kernel
theorem dX7_doubt_43 : decode cX7_doubt 43 = .ok (.invokevirtual 136, 3) := by decide +kernel
theorem dX7_doubt_46 : decode cX7_doubt 46 = .ok (.aload_n 0, 1) := by decide +kernel
theorem dX7_doubt_47 : decode cX7_doubt 47 = .ok (.getfield 12, 3) := by decide +kernel
theorem dX7_doubt_50 : decode cX7_doubt 50 = .ok (.getfield 88, 3) := by decide +kernel
theorem dX7_doubt_53 : decode cX7_doubt 53 = .ok (.iload_n 1, 1) := by decide +kernel
theorem dX7_doubt_54 : decode cX7_doubt 54 = .ok (.aaload, 1) := by decide +kernel
theorem dX7_doubt_55 : decode cX7_doubt 55 = .ok (.aload_n 0, 1) := by decide +kernel
theorem dX7_doubt_56 : decode cX7_doubt 56 = .ok (.getfield 12, 3) := by decide +kernel
theorem dX7_doubt_59 : decode cX7_doubt 59 = .ok (.getfield 88, 3) := by decide +kernel
theorem dX7_doubt_62 : decode cX7_doubt 62 = .ok (.iload_n 2, 1) := by decide +kernel
theorem dX7_doubt_63 : decode cX7_doubt 63 = .ok (.aaload, 1) := by decide +kernel
theorem dX7_doubt_64 : decode cX7_doubt 64 = .ok (.iload_n 3, 1) := by decide +kernel
theorem dX7_doubt_65 : decode cX7_doubt 65 = .ok (.invokevirtual 143, 3) := by decide +kernel
theorem dX7_doubt_68 : decode cX7_doubt 68 = .ok (.ireturn, 1) := by decide +kernel
theorem oG_doubt : zok yX7_doubt 3 := by decide +kernel
theorem dX1_doubtOf_0 : decode cX1_doubtOf 0 = .ok (.aload_n 2, 1) := by decide +kernel
theorem dX1_doubtOf_1 : decode cX1_doubtOf 1 = .ok (.getfield 25, 3) := by decide +kernel
theorem dX1_doubtOf_4 : decode cX1_doubtOf 4 = .ok (.iload_n 3, 1) := by decide +kernel
theorem dX1_doubtOf_5 : decode cX1_doubtOf 5 = .ok (.iaload, 1) := by decide +kernel
theorem dX1_doubtOf_6 : decode cX1_doubtOf 6 = .ok (.istore 4, 2) := by decide +kernel
theorem dX1_doubtOf_8 : decode cX1_doubtOf 8 = .ok (.aload_n 0, 1) := by decide +kernel
theorem dX1_doubtOf_9 : decode cX1_doubtOf 9 = .ok (.getfield 15, 3) := by decide +kernel
theorem dX1_doubtOf_12 : decode cX1_doubtOf 12 = .ok (.iconst 0, 1) := by decide +kernel
theorem dX1_doubtOf_13 : decode cX1_doubtOf 13 = .ok (.aload_n 1, 1) := by decide +kernel
theorem dX1_doubtOf_14 : decode cX1_doubtOf 14 = .ok (.getfield 30, 3) := by decide +kernel
theorem dX1_doubtOf_17 : decode cX1_doubtOf 17 = .ok (.iastore, 1) := by decide +kernel
theorem dX1_doubtOf_18 : decode cX1_doubtOf 18 = .ok (.aload_n 0, 1) := by decide +kernel
theorem dX1_doubtOf_19 : decode cX1_doubtOf 19 = .ok (.getfield 15, 3) := by decide +kernel
theorem dX1_doubtOf_22 : decode cX1_doubtOf 22 = .ok (.iconst 1, 1) := by decide +kernel
theorem dX1_doubtOf_23 : decode cX1_doubtOf 23 = .ok (.aload_n 1, 1) := by decide +kernel
theorem dX1_doubtOf_24 : decode cX1_doubtOf 24 = .ok (.getfield 33, 3) := by decide +kernel
theorem dX1_doubtOf_27 : decode cX1_doubtOf 27 = .ok (.iastore, 1) := by decide +kernel
theorem dX1_doubtOf_28 : decode cX1_doubtOf 28 = .ok (.aload_n 0, 1) := by decide +kernel
theorem dX1_doubtOf_29 : decode cX1_doubtOf 29 = .ok (.getfield 15, 3) := by decide +kernel
theorem dX1_doubtOf_32 : decode cX1_doubtOf 32 = .ok (.iconst 2, 1) := by decide +kernel
theorem dX1_doubtOf_33 : decode cX1_doubtOf 33 = .ok (.aload_n 2, 1) := by decide +kernel
theorem dX1_doubtOf_34 : decode cX1_doubtOf 34 = .ok (.getfield 30, 3) := by decide +kernel
theorem dX1_doubtOf_37 : decode cX1_doubtOf 37 = .ok (.iastore, 1) := by decide +kernel
theorem dX1_doubtOf_38 : decode cX1_doubtOf 38 = .ok (.aload_n 0, 1) := by decide +kernel
theorem dX1_doubtOf_39 : decode cX1_doubtOf 39 = .ok (.getfield 15, 3) := by decide +kernel
theorem dX1_doubtOf_42 : decode cX1_doubtOf 42 = .ok (.iconst 3, 1) := by decide +kernel
theorem dX1_doubtOf_43 : decode cX1_doubtOf 43 = .ok (.iload_n 3, 1) := by decide +kernel
theorem dX1_doubtOf_44 : decode cX1_doubtOf 44 = .ok (.iastore, 1) := by decide +kernel
theorem dX1_doubtOf_45 : decode cX1_doubtOf 45 = .ok (.aload_n 0, 1) := by decide +kernel
theorem dX1_doubtOf_46 : decode cX1_doubtOf 46 = .ok (.getfield 15, 3) := by decide +kernel
theorem dX1_doubtOf_49 : decode cX1_doubtOf 49 = .ok (.iconst 4, 1) := by decide +kernel
theorem dX1_doubtOf_50 : decode cX1_doubtOf 50 = .ok (.aload_n 2, 1) := by decide +kernel
theorem dX1_doubtOf_51 : decode cX1_doubtOf 51 = .ok (.getfield 36, 3) := by decide +kernel
theorem dX1_doubtOf_54 : decode cX1_doubtOf 54 = .ok (.iload 4, 2) := by decide +kernel
theorem dX1_doubtOf_56 : decode cX1_doubtOf 56 = .ok (.iaload, 1) := by decide +kernel
theorem dX1_doubtOf_57 : decode cX1_doubtOf 57 = .ok (.bipush 10, 2) := by decide +kernel
theorem dX1_doubtOf_59 : decode cX1_doubtOf 59 = .ok (.idiv, 1) := by decide +kernel
theorem dX1_doubtOf_60 : decode cX1_doubtOf 60 = .ok (.iastore, 1) := by decide +kernel
theorem dX1_doubtOf_61 : decode cX1_doubtOf 61 = .ok (.aload_n 0, 1) := by decide +kernel
theorem dX1_doubtOf_62 : decode cX1_doubtOf 62 = .ok (.getfield 15, 3) := by decide +kernel
theorem dX1_doubtOf_65 : decode cX1_doubtOf 65 = .ok (.iconst 5, 1) := by decide +kernel
theorem dX1_doubtOf_66 : decode cX1_doubtOf 66 = .ok (.aload_n 2, 1) := by decide +kernel
theorem dX1_doubtOf_67 : decode cX1_doubtOf 67 = .ok (.getfield 39, 3) := by decide +kernel
theorem dX1_doubtOf_70 : decode cX1_doubtOf 70 = .ok (.iload 4, 2) := by decide +kernel
theorem dX1_doubtOf_72 : decode cX1_doubtOf 72 = .ok (.iaload, 1) := by decide +kernel
theorem dX1_doubtOf_73 : decode cX1_doubtOf 73 = .ok (.iastore, 1) := by decide +kernel
theorem dX1_doubtOf_74 : decode cX1_doubtOf 74 = .ok (.bipush 99, 2) := by decide +kernel
theorem dX1_doubtOf_76 : decode cX1_doubtOf 76 = .ok (.aload_n 2, 1) := by decide +kernel
theorem dX1_doubtOf_77 : decode cX1_doubtOf 77 = .ok (.getfield 36, 3) := by decide +kernel
theorem dX1_doubtOf_80 : decode cX1_doubtOf 80 = .ok (.iload 4, 2) := by decide +kernel
theorem dX1_doubtOf_82 : decode cX1_doubtOf 82 = .ok (.iaload, 1) := by decide +kernel
theorem dX1_doubtOf_83 : decode cX1_doubtOf 83 = .ok (.isub, 1) := by decide +kernel
theorem dX1_doubtOf_84 : decode cX1_doubtOf 84 = .ok (.aload_n 0, 1) := by decide +kernel
theorem dX1_doubtOf_85 : decode cX1_doubtOf 85 = .ok (.invokevirtual 42, 3) := by decide +kernel
theorem dX1_doubtOf_88 : decode cX1_doubtOf 88 = .ok (.iadd, 1) := by decide +kernel
theorem dX1_doubtOf_89 : decode cX1_doubtOf 89 = .ok (.ireturn, 1) := by decide +kernel
theorem oE_doubtOf : zok yX1_doubtOf 3 := by decide +kernel
theorem dX1_runClauses_0 : decode cX1_runClauses 0 = .ok (.iconst 0, 1) := by decide +kernel
theorem dX1_runClauses_1 : decode cX1_runClauses 1 = .ok (.istore_n 1, 1) := by decide +kernel
theorem dX1_runClauses_2 : decode cX1_runClauses 2 = .ok (.iconst 0, 1) := by decide +kernel
theorem dX1_runClauses_3 : decode cX1_runClauses 3 = .ok (.istore_n 2, 1) := by decide +kernel
theorem dX1_runClauses_4 : decode cX1_runClauses 4 = .ok (.iconst 0, 1) := by decide +kernel
theorem dX1_runClauses_5 : decode cX1_runClauses 5 = .ok (.istore_n 3, 1) := by decide +kernel
theorem dX1_runClauses_6 : decode cX1_runClauses 6 = .ok (.iload_n 3, 1) := by decide +kernel
theorem dX1_runClauses_7 : decode cX1_runClauses 7 = .ok (.aload_n 0, 1) := by decide +kernel
theorem dX1_runClauses_8 : decode cX1_runClauses 8 = .ok (.getfield 22, 3) := by decide +kernel
theorem dX1_runClauses_11 : decode cX1_runClauses 11 = .ok (.if_icmp .ge 179, 3) := by decide +kernel
theorem dX1_runClauses_14 : decode cX1_runClauses 14 = .ok (.aload_n 0, 1) := by decide +kernel
theorem dX1_runClauses_15 : decode cX1_runClauses 15 = .ok (.getfield 9, 3) := by decide +kernel
theorem dX1_runClauses_18 : decode cX1_runClauses 18 = .ok (.iload_n 3, 1) := by decide +kernel
theorem dX1_runClauses_19 : decode cX1_runClauses 19 = .ok (.iaload, 1) := by decide +kernel
theorem dX1_runClauses_20 : decode cX1_runClauses 20 = .ok (.bipush 16, 2) := by decide +kernel
theorem dX1_runClauses_22 : decode cX1_runClauses 22 = .ok (.ishr, 1) := by decide +kernel
theorem dX1_runClauses_23 : decode cX1_runClauses 23 = .ok (.istore 4, 2) := by decide +kernel
theorem dX1_runClauses_25 : decode cX1_runClauses 25 = .ok (.aload_n 0, 1) := by decide +kernel
theorem dX1_runClauses_26 : decode cX1_runClauses 26 = .ok (.getfield 9, 3) := by decide +kernel
theorem dX1_runClauses_29 : decode cX1_runClauses 29 = .ok (.iload_n 3, 1) := by decide +kernel
theorem dX1_runClauses_30 : decode cX1_runClauses 30 = .ok (.iaload, 1) := by decide +kernel
theorem dX1_runClauses_31 : decode cX1_runClauses 31 = .ok (.sipush 255, 3) := by decide +kernel
theorem dX1_runClauses_34 : decode cX1_runClauses 34 = .ok (.iand, 1) := by decide +kernel
theorem dX1_runClauses_35 : decode cX1_runClauses 35 = .ok (.istore 5, 2) := by decide +kernel
theorem dX1_runClauses_37 : decode cX1_runClauses 37 = .ok (.iload 4, 2) := by decide +kernel
theorem dX1_runClauses_39 : decode cX1_runClauses 39 = .ok (.iconst 2, 1) := by decide +kernel
theorem dX1_runClauses_40 : decode cX1_runClauses 40 = .ok (.if_icmp .gt 39, 3) := by decide +kernel
theorem dX1_runClauses_43 : decode cX1_runClauses 43 = .ok (.iload_n 2, 1) := by decide +kernel
theorem dX1_runClauses_44 : decode cX1_runClauses 44 = .ok (.iconst 1, 1) := by decide +kernel
theorem dX1_runClauses_45 : decode cX1_runClauses 45 = .ok (.ishl, 1) := by decide +kernel
theorem dX1_runClauses_46 : decode cX1_runClauses 46 = .ok (.aload_n 0, 1) := by decide +kernel
theorem dX1_runClauses_47 : decode cX1_runClauses 47 = .ok (.iload 4, 2) := by decide +kernel
theorem dX1_runClauses_49 : decode cX1_runClauses 49 = .ok (.aload_n 0, 1) := by decide +kernel
theorem dX1_runClauses_50 : decode cX1_runClauses 50 = .ok (.getfield 9, 3) := by decide +kernel
theorem dX1_runClauses_53 : decode cX1_runClauses 53 = .ok (.iload_n 3, 1) := by decide +kernel
theorem dX1_runClauses_54 : decode cX1_runClauses 54 = .ok (.iaload, 1) := by decide +kernel
theorem dX1_runClauses_55 : decode cX1_runClauses 55 = .ok (.bipush 8, 2) := by decide +kernel
theorem dX1_runClauses_57 : decode cX1_runClauses 57 = .ok (.ishr, 1) := by decide +kernel
theorem dX1_runClauses_58 : decode cX1_runClauses 58 = .ok (.bipush 7, 2) := by decide +kernel
theorem dX1_runClauses_60 : decode cX1_runClauses 60 = .ok (.iand, 1) := by decide +kernel
theorem dX1_runClauses_61 : decode cX1_runClauses 61 = .ok (.iload 5, 2) := by decide +kernel
theorem dX1_runClauses_63 : decode cX1_runClauses 63 = .ok (.invokevirtual 46, 3) := by decide +kernel
theorem dX1_runClauses_66 : decode cX1_runClauses 66 = .ok (.ifCond .eq 7, 3) := by decide +kernel
theorem dX1_runClauses_69 : decode cX1_runClauses 69 = .ok (.iconst 1, 1) := by decide +kernel
theorem dX1_runClauses_70 : decode cX1_runClauses 70 = .ok (.goto 4, 3) := by decide +kernel
theorem dX1_runClauses_73 : decode cX1_runClauses 73 = .ok (.iconst 0, 1) := by decide +kernel
theorem dX1_runClauses_74 : decode cX1_runClauses 74 = .ok (.ior, 1) := by decide +kernel
theorem dX1_runClauses_75 : decode cX1_runClauses 75 = .ok (.istore_n 2, 1) := by decide +kernel
theorem dX1_runClauses_76 : decode cX1_runClauses 76 = .ok (.goto 108, 3) := by decide +kernel
theorem dX1_runClauses_79 : decode cX1_runClauses 79 = .ok (.iload 4, 2) := by decide +kernel
theorem dX1_runClauses_81 : decode cX1_runClauses 81 = .ok (.iconst 3, 1) := by decide +kernel
theorem dX1_runClauses_82 : decode cX1_runClauses 82 = .ok (.if_icmp .ne 10, 3) := by decide +kernel
theorem dX1_runClauses_85 : decode cX1_runClauses 85 = .ok (.iload_n 2, 1) := by decide +kernel
theorem dX1_runClauses_86 : decode cX1_runClauses 86 = .ok (.iconst 1, 1) := by decide +kernel
theorem dX1_runClauses_87 : decode cX1_runClauses 87 = .ok (.ixor, 1) := by decide +kernel
theorem dX1_runClauses_88 : decode cX1_runClauses 88 = .ok (.istore_n 2, 1) := by decide +kernel
theorem dX1_runClauses_89 : decode cX1_runClauses 89 = .ok (.goto 95, 3) := by decide +kernel
theorem dX1_runClauses_92 : decode cX1_runClauses 92 = .ok (.iload_n 2, 1) := by decide +kernel
theorem dX1_runClauses_93 : decode cX1_runClauses 93 = .ok (.iconst 1, 1) := by decide +kernel
theorem dX1_runClauses_94 : decode cX1_runClauses 94 = .ok (.iand, 1) := by decide +kernel
theorem dX1_runClauses_95 : decode cX1_runClauses 95 = .ok (.iconst 1, 1) := by decide +kernel
theorem dX1_runClauses_96 : decode cX1_runClauses 96 = .ok (.if_icmp .ne 7, 3) := by decide +kernel
theorem dX1_runClauses_99 : decode cX1_runClauses 99 = .ok (.iconst 1, 1) := by decide +kernel
theorem dX1_runClauses_100 : decode cX1_runClauses 100 = .ok (.goto 4, 3) := by decide +kernel
theorem dX1_runClauses_103 : decode cX1_runClauses 103 = .ok (.iconst 0, 1) := by decide +kernel
theorem dX1_runClauses_104 : decode cX1_runClauses 104 = .ok (.istore 6, 2) := by decide +kernel
theorem dX1_runClauses_106 : decode cX1_runClauses 106 = .ok (.iload_n 2, 1) := by decide +kernel
theorem dX1_runClauses_107 : decode cX1_runClauses 107 = .ok (.iconst 1, 1) := by decide +kernel
theorem dX1_runClauses_108 : decode cX1_runClauses 108 = .ok (.ishr, 1) := by decide +kernel
theorem dX1_runClauses_109 : decode cX1_runClauses 109 = .ok (.istore_n 2, 1) := by decide +kernel
theorem dX1_runClauses_110 : decode cX1_runClauses 110 = .ok (.iload 4, 2) := by decide +kernel
theorem dX1_runClauses_112 : decode cX1_runClauses 112 = .ok (.iconst 4, 1) := by decide +kernel
theorem dX1_runClauses_113 : decode cX1_runClauses 113 = .ok (.if_icmp .ne 16, 3) := by decide +kernel
theorem dX1_runClauses_116 : decode cX1_runClauses 116 = .ok (.iload 6, 2) := by decide +kernel
theorem dX1_runClauses_118 : decode cX1_runClauses 118 = .ok (.ifCond .ne 11, 3) := by decide +kernel
theorem dX1_runClauses_121 : decode cX1_runClauses 121 = .ok (.iload_n 2, 1) := by decide +kernel
theorem dX1_runClauses_122 : decode cX1_runClauses 122 = .ok (.bipush (-2), 2) := by decide +kernel
theorem dX1_runClauses_124 : decode cX1_runClauses 124 = .ok (.iand, 1) := by decide +kernel
theorem dX1_runClauses_125 : decode cX1_runClauses 125 = .ok (.istore_n 2, 1) := by decide +kernel
theorem dX1_runClauses_126 : decode cX1_runClauses 126 = .ok (.goto 58, 3) := by decide +kernel
theorem dX1_runClauses_129 : decode cX1_runClauses 129 = .ok (.iload 4, 2) := by decide +kernel
theorem dX1_runClauses_131 : decode cX1_runClauses 131 = .ok (.iconst 5, 1) := by decide +kernel
theorem dX1_runClauses_132 : decode cX1_runClauses 132 = .ok (.if_icmp .ne 15, 3) := by decide +kernel
theorem dX1_runClauses_135 : decode cX1_runClauses 135 = .ok (.iload 6, 2) := by decide +kernel
theorem dX1_runClauses_137 : decode cX1_runClauses 137 = .ok (.ifCond .eq 10, 3) := by decide +kernel
theorem dX1_runClauses_140 : decode cX1_runClauses 140 = .ok (.iload_n 2, 1) := by decide +kernel
theorem dX1_runClauses_141 : decode cX1_runClauses 141 = .ok (.iconst 1, 1) := by decide +kernel
theorem dX1_runClauses_142 : decode cX1_runClauses 142 = .ok (.ior, 1) := by decide +kernel
theorem dX1_runClauses_143 : decode cX1_runClauses 143 = .ok (.istore_n 2, 1) := by decide +kernel
theorem dX1_runClauses_144 : decode cX1_runClauses 144 = .ok (.goto 40, 3) := by decide +kernel
theorem dX1_runClauses_147 : decode cX1_runClauses 147 = .ok (.iload 4, 2) := by decide +kernel
theorem dX1_runClauses_149 : decode cX1_runClauses 149 = .ok (.bipush 6, 2) := by decide +kernel
theorem dX1_runClauses_151 : decode cX1_runClauses 151 = .ok (.if_icmp .ne 16, 3) := by decide +kernel
theorem dX1_runClauses_154 : decode cX1_runClauses 154 = .ok (.iload 6, 2) := by decide +kernel
theorem dX1_runClauses_156 : decode cX1_runClauses 156 = .ok (.ifCond .eq 11, 3) := by decide +kernel
theorem dX1_runClauses_159 : decode cX1_runClauses 159 = .ok (.iload_n 1, 1) := by decide +kernel
theorem dX1_runClauses_160 : decode cX1_runClauses 160 = .ok (.iload 5, 2) := by decide +kernel
theorem dX1_runClauses_162 : decode cX1_runClauses 162 = .ok (.iadd, 1) := by decide +kernel
theorem dX1_runClauses_163 : decode cX1_runClauses 163 = .ok (.istore_n 1, 1) := by decide +kernel
theorem dX1_runClauses_164 : decode cX1_runClauses 164 = .ok (.goto 20, 3) := by decide +kernel
theorem dX1_runClauses_167 : decode cX1_runClauses 167 = .ok (.iload 4, 2) := by decide +kernel
theorem dX1_runClauses_169 : decode cX1_runClauses 169 = .ok (.bipush 7, 2) := by decide +kernel
theorem dX1_runClauses_171 : decode cX1_runClauses 171 = .ok (.if_icmp .ne 13, 3) := by decide +kernel
theorem dX1_runClauses_174 : decode cX1_runClauses 174 = .ok (.iload 6, 2) := by decide +kernel
theorem dX1_runClauses_176 : decode cX1_runClauses 176 = .ok (.ifCond .eq 8, 3) := by decide +kernel
theorem dX1_runClauses_179 : decode cX1_runClauses 179 = .ok (.iload_n 1, 1) := by decide +kernel
theorem dX1_runClauses_180 : decode cX1_runClauses 180 = .ok (.iload 5, 2) := by decide +kernel
theorem dX1_runClauses_182 : decode cX1_runClauses 182 = .ok (.isub, 1) := by decide +kernel
theorem dX1_runClauses_183 : decode cX1_runClauses 183 = .ok (.istore_n 1, 1) := by decide +kernel
theorem dX1_runClauses_184 : decode cX1_runClauses 184 = .ok (.iinc 3 1, 3) := by decide +kernel
theorem dX1_runClauses_187 : decode cX1_runClauses 187 = .ok (.goto (-181), 3) := by decide +kernel
theorem dX1_runClauses_190 : decode cX1_runClauses 190 = .ok (.iload_n 1, 1) := by decide +kernel
theorem dX1_runClauses_191 : decode cX1_runClauses 191 = .ok (.ireturn, 1) := by decide +kernel
theorem oE_runClauses : zok yX1_runClauses 0 := by decide +kernel
theorem dX1_holds_0 : decode cX1_holds 0 = .ok (.iload_n 2, 1) := by decide +kernel
theorem dX1_holds_1 : decode cX1_holds 1 = .ok (.aload_n 0, 1) := by decide +kernel
theorem dX1_holds_2 : decode cX1_holds 2 = .ok (.getfield 15, 3) := by decide +kernel
theorem dX1_holds_5 : decode cX1_holds 5 = .ok (.arraylength, 1) := by decide +kernel
theorem dX1_holds_6 : decode cX1_holds 6 = .ok (.if_icmp .ge 12, 3) := by decide +kernel
theorem dX1_holds_9 : decode cX1_holds 9 = .ok (.aload_n 0, 1) := by decide +kernel
theorem dX1_holds_10 : decode cX1_holds 10 = .ok (.getfield 15, 3) := by decide +kernel
theorem dX1_holds_13 : decode cX1_holds 13 = .ok (.iload_n 2, 1) := by decide +kernel
theorem dX1_holds_14 : decode cX1_holds 14 = .ok (.iaload, 1) := by decide +kernel
theorem dX1_holds_15 : decode cX1_holds 15 = .ok (.goto 4, 3) := by decide +kernel
theorem dX1_holds_18 : decode cX1_holds 18 = .ok (.iconst 0, 1) := by decide +kernel
theorem dX1_holds_19 : decode cX1_holds 19 = .ok (.istore 4, 2) := by decide +kernel
theorem dX1_holds_21 : decode cX1_holds 21 = .ok (.iload_n 1, 1) := by decide +kernel
theorem dX1_holds_22 : decode cX1_holds 22 = .ok (.lookupswitch 50 #[(0, 26), (1, 38)], 26) := by decide +kernel
theorem dX1_holds_48 : decode cX1_holds 48 = .ok (.iload 4, 2) := by decide +kernel
theorem dX1_holds_50 : decode cX1_holds 50 = .ok (.iload_n 3, 1) := by decide +kernel
theorem dX1_holds_51 : decode cX1_holds 51 = .ok (.if_icmp .ge 7, 3) := by decide +kernel
theorem dX1_holds_54 : decode cX1_holds 54 = .ok (.iconst 1, 1) := by decide +kernel
theorem dX1_holds_55 : decode cX1_holds 55 = .ok (.goto 4, 3) := by decide +kernel
theorem dX1_holds_58 : decode cX1_holds 58 = .ok (.iconst 0, 1) := by decide +kernel
theorem dX1_holds_59 : decode cX1_holds 59 = .ok (.ireturn, 1) := by decide +kernel
theorem dX1_holds_60 : decode cX1_holds 60 = .ok (.iload 4, 2) := by decide +kernel
theorem dX1_holds_62 : decode cX1_holds 62 = .ok (.iload_n 3, 1) := by decide +kernel
theorem dX1_holds_63 : decode cX1_holds 63 = .ok (.if_icmp .ne 7, 3) := by decide +kernel
theorem dX1_holds_66 : decode cX1_holds 66 = .ok (.iconst 1, 1) := by decide +kernel
theorem dX1_holds_67 : decode cX1_holds 67 = .ok (.goto 4, 3) := by decide +kernel
theorem dX1_holds_70 : decode cX1_holds 70 = .ok (.iconst 0, 1) := by decide +kernel
theorem dX1_holds_71 : decode cX1_holds 71 = .ok (.ireturn, 1) := by decide +kernel
theorem dX1_holds_72 : decode cX1_holds 72 = .ok (.iload 4, 2) := by decide +kernel
theorem dX1_holds_74 : decode cX1_holds 74 = .ok (.iload_n 3, 1) := by decide +kernel
theorem dX1_holds_75 : decode cX1_holds 75 = .ok (.if_icmp .le 7, 3) := by decide +kernel
theorem dX1_holds_78 : decode cX1_holds 78 = .ok (.iconst 1, 1) := by decide +kernel
theorem dX1_holds_79 : decode cX1_holds 79 = .ok (.goto 4, 3) := by decide +kernel
theorem dX1_holds_82 : decode cX1_holds 82 = .ok (.iconst 0, 1) := by decide +kernel
theorem dX1_holds_83 : decode cX1_holds 83 = .ok (.ireturn, 1) := by decide +kernel
theorem oE_holds : zok yX1_holds 3 := by decide +kernel
theorem dX7_round_0 : decode cX7_round 0 = .ok (.aload_n 0, 1) := by decide +kernel
theorem dX7_round_1 : decode cX7_round 1 = .ok (.getfield 12, 3) := by decide +kernel
theorem dX7_round_4 : decode cX7_round 4 = .ok (.iload_n 1, 1) := by decide +kernel
theorem dX7_round_5 : decode cX7_round 5 = .ok (.invokevirtual 81, 3) := by decide +kernel
theorem dX7_round_8 : decode cX7_round 8 = .ok (.ifCond .ne 5, 3) := by decide +kernel
theorem dX7_round_11 : decode cX7_round 11 = .ok (.iconst (-1), 1) := by decide +kernel
theorem dX7_round_12 : decode cX7_round 12 = .ok (.ireturn, 1) := by decide +kernel
theorem dX7_round_13 : decode cX7_round 13 = .ok (.aload_n 0, 1) := by decide +kernel
theorem dX7_round_14 : decode cX7_round 14 = .ok (.getfield 12, 3) := by decide +kernel
theorem dX7_round_17 : decode cX7_round 17 = .ok (.getfield 133, 3) := by decide +kernel
theorem dX7_round_20 : decode cX7_round 20 = .ok (.sipush 999, 3) := by decide +kernel
theorem dX7_round_23 : decode cX7_round 23 = .ok (.if_icmp .lt 8, 3) := by decide +kernel
theorem dX7_round_26 : decode cX7_round 26 = .ok (.bipush (-3), 2) := by decide +kernel
theorem dX7_round_28 : decode cX7_round 28 = .ok (.goto 12, 3) := by decide +kernel
theorem dX7_round_31 : decode cX7_round 31 = .ok (.aload_n 0, 1) := by decide +kernel
theorem dX7_round_32 : decode cX7_round 32 = .ok (.aload_n 0, 1) := by decide +kernel
theorem dX7_round_33 : decode cX7_round 33 = .ok (.getfield 12, 3) := by decide +kernel
theorem dX7_round_36 : decode cX7_round 36 = .ok (.iload_n 1, 1) := by decide +kernel
theorem dX7_round_37 : decode cX7_round 37 = .ok (.invokevirtual 147, 3) := by decide +kernel
theorem dX7_round_40 : decode cX7_round 40 = .ok (.ireturn, 1) := by decide +kernel
theorem oG_round : zok yX7_round 1 := by decide +kernel
theorem dX7_playForPoints_0 : decode cX7_playForPoints 0 = .ok (.aload_n 0, 1) := by decide +kernel
theorem dX7_playForPoints_1 : decode cX7_playForPoints 1 = .ok (.aload_n 1, 1) := by decide +kernel
theorem dX7_playForPoints_2 : decode cX7_playForPoints 2 = .ok (.iload_n 2, 1) := by decide +kernel
theorem dX7_playForPoints_3 : decode cX7_playForPoints 3 = .ok (.invokevirtual 151, 3) := by decide +kernel
theorem dX7_playForPoints_6 : decode cX7_playForPoints 6 = .ok (.istore_n 3, 1) := by decide +kernel
theorem dX7_playForPoints_7 : decode cX7_playForPoints 7 = .ok (.iconst 0, 1) := by decide +kernel
theorem dX7_playForPoints_8 : decode cX7_playForPoints 8 = .ok (.istore 4, 2) := by decide +kernel
theorem dX7_playForPoints_10 : decode cX7_playForPoints 10 = .ok (.iload 4, 2) := by decide +kernel
theorem dX7_playForPoints_12 : decode cX7_playForPoints 12 = .ok (.aload_n 1, 1) := by decide +kernel
theorem dX7_playForPoints_13 : decode cX7_playForPoints 13 = .ok (.getfield 73, 3) := by decide +kernel
theorem dX7_playForPoints_16 : decode cX7_playForPoints 16 = .ok (.if_icmp .ge 51, 3) := by decide +kernel
theorem dX7_playForPoints_19 : decode cX7_playForPoints 19 = .ok (.iload 4, 2) := by decide +kernel
theorem dX7_playForPoints_21 : decode cX7_playForPoints 21 = .ok (.iload_n 2, 1) := by decide +kernel
theorem dX7_playForPoints_22 : decode cX7_playForPoints 22 = .ok (.if_icmp .eq 39, 3) := by decide +kernel
theorem dX7_playForPoints_25 : decode cX7_playForPoints 25 = .ok (.aload_n 0, 1) := by decide +kernel
theorem dX7_playForPoints_26 : decode cX7_playForPoints 26 = .ok (.getfield 45, 3) := by decide +kernel
theorem dX7_playForPoints_29 : decode cX7_playForPoints 29 = .ok (.getfield 154, 3) := by decide +kernel
theorem dX7_playForPoints_32 : decode cX7_playForPoints 32 = .ok (.iload 4, 2) := by decide +kernel
theorem dX7_playForPoints_34 : decode cX7_playForPoints 34 = .ok (.iaload, 1) := by decide +kernel
theorem dX7_playForPoints_35 : decode cX7_playForPoints 35 = .ok (.aload_n 0, 1) := by decide +kernel
theorem dX7_playForPoints_36 : decode cX7_playForPoints 36 = .ok (.getfield 45, 3) := by decide +kernel
theorem dX7_playForPoints_39 : decode cX7_playForPoints 39 = .ok (.getfield 186, 3) := by decide +kernel
theorem dX7_playForPoints_42 : decode cX7_playForPoints 42 = .ok (.if_icmp .ne 19, 3) := by decide +kernel
theorem dX7_playForPoints_45 : decode cX7_playForPoints 45 = .ok (.aload_n 1, 1) := by decide +kernel
theorem dX7_playForPoints_46 : decode cX7_playForPoints 46 = .ok (.getfield 88, 3) := by decide +kernel
theorem dX7_playForPoints_49 : decode cX7_playForPoints 49 = .ok (.iload 4, 2) := by decide +kernel
theorem dX7_playForPoints_51 : decode cX7_playForPoints 51 = .ok (.aaload, 1) := by decide +kernel
theorem dX7_playForPoints_52 : decode cX7_playForPoints 52 = .ok (.dup, 1) := by decide +kernel
theorem dX7_playForPoints_53 : decode cX7_playForPoints 53 = .ok (.getfield 200, 3) := by decide +kernel
theorem dX7_playForPoints_56 : decode cX7_playForPoints 56 = .ok (.iconst 1, 1) := by decide +kernel
theorem dX7_playForPoints_57 : decode cX7_playForPoints 57 = .ok (.iadd, 1) := by decide +kernel
theorem dX7_playForPoints_58 : decode cX7_playForPoints 58 = .ok (.putfield 200, 3) := by decide +kernel
theorem dX7_playForPoints_61 : decode cX7_playForPoints 61 = .ok (.iinc 4 1, 3) := by decide +kernel
theorem dX7_playForPoints_64 : decode cX7_playForPoints 64 = .ok (.goto (-54), 3) := by decide +kernel
theorem dX7_playForPoints_67 : decode cX7_playForPoints 67 = .ok (.aload_n 1, 1) := by decide +kernel
theorem dX7_playForPoints_68 : decode cX7_playForPoints 68 = .ok (.getfield 88, 3) := by decide +kernel
theorem dX7_playForPoints_71 : decode cX7_playForPoints 71 = .ok (.iload_n 2, 1) := by decide +kernel
theorem dX7_playForPoints_72 : decode cX7_playForPoints 72 = .ok (.aaload, 1) := by decide +kernel
theorem dX7_playForPoints_73 : decode cX7_playForPoints 73 = .ok (.dup, 1) := by decide +kernel
theorem dX7_playForPoints_74 : decode cX7_playForPoints 74 = .ok (.getfield 200, 3) := by decide +kernel
theorem dX7_playForPoints_77 : decode cX7_playForPoints 77 = .ok (.iload_n 3, 1) := by decide +kernel
theorem dX7_playForPoints_78 : decode cX7_playForPoints 78 = .ok (.iadd, 1) := by decide +kernel
theorem dX7_playForPoints_79 : decode cX7_playForPoints 79 = .ok (.putfield 200, 3) := by decide +kernel
theorem dX7_playForPoints_82 : decode cX7_playForPoints 82 = .ok (.aload_n 1, 1) := by decide +kernel
theorem dX7_playForPoints_83 : decode cX7_playForPoints 83 = .ok (.dup, 1) := by decide +kernel
theorem dX7_playForPoints_84 : decode cX7_playForPoints 84 = .ok (.getfield 133, 3) := by decide +kernel
theorem dX7_playForPoints_87 : decode cX7_playForPoints 87 = .ok (.iconst 1, 1) := by decide +kernel
theorem dX7_playForPoints_88 : decode cX7_playForPoints 88 = .ok (.iadd, 1) := by decide +kernel
theorem dX7_playForPoints_89 : decode cX7_playForPoints 89 = .ok (.putfield 133, 3) := by decide +kernel
theorem dX7_playForPoints_92 : decode cX7_playForPoints 92 = .ok (.iload_n 3, 1) := by decide +kernel
theorem dX7_playForPoints_93 : decode cX7_playForPoints 93 = .ok (.ireturn, 1) := by decide +kernel
theorem oG_playForPoints : zok yX7_playForPoints 2 := by decide +kernel
theorem dX7_playAsEver_0 : decode cX7_playAsEver 0 = .ok (.aload_n 0, 1) := by decide +kernel
theorem dX7_playAsEver_1 : decode cX7_playAsEver 1 = .ok (.getfield 45, 3) := by decide +kernel
theorem dX7_playAsEver_4 : decode cX7_playAsEver 4 = .ok (.aload_n 1, 1) := by decide +kernel
theorem dX7_playAsEver_5 : decode cX7_playAsEver 5 = .ok (.aload_n 0, 1) := by decide +kernel
theorem dX7_playAsEver_6 : decode cX7_playAsEver 6 = .ok (.invokevirtual 136, 3) := by decide +kernel
theorem dX7_playAsEver_9 : decode cX7_playAsEver 9 = .ok (.iload_n 2, 1) := by decide +kernel
theorem dX7_playAsEver_10 : decode cX7_playAsEver 10 = .ok (.invokevirtual 272, 3) := by decide +kernel
theorem dX7_playAsEver_13 : decode cX7_playAsEver 13 = .ok (.iconst 0, 1) := by decide +kernel
theorem dX7_playAsEver_14 : decode cX7_playAsEver 14 = .ok (.istore_n 3, 1) := by decide +kernel
theorem dX7_playAsEver_15 : decode cX7_playAsEver 15 = .ok (.iload_n 3, 1) := by decide +kernel
theorem dX7_playAsEver_16 : decode cX7_playAsEver 16 = .ok (.aload_n 1, 1) := by decide +kernel
theorem dX7_playAsEver_17 : decode cX7_playAsEver 17 = .ok (.getfield 73, 3) := by decide +kernel
theorem dX7_playAsEver_20 : decode cX7_playAsEver 20 = .ok (.if_icmp .ge 23, 3) := by decide +kernel
theorem dX7_playAsEver_23 : decode cX7_playAsEver 23 = .ok (.iload_n 3, 1) := by decide +kernel
theorem dX7_playAsEver_24 : decode cX7_playAsEver 24 = .ok (.iload_n 2, 1) := by decide +kernel
theorem dX7_playAsEver_25 : decode cX7_playAsEver 25 = .ok (.if_icmp .eq 12, 3) := by decide +kernel
theorem dX7_playAsEver_28 : decode cX7_playAsEver 28 = .ok (.aload_n 0, 1) := by decide +kernel
theorem dX7_playAsEver_29 : decode cX7_playAsEver 29 = .ok (.getfield 45, 3) := by decide +kernel
theorem dX7_playAsEver_32 : decode cX7_playAsEver 32 = .ok (.iload_n 3, 1) := by decide +kernel
theorem dX7_playAsEver_33 : decode cX7_playAsEver 33 = .ok (.invokevirtual 176, 3) := by decide +kernel
theorem dX7_playAsEver_36 : decode cX7_playAsEver 36 = .ok (.pop, 1) := by decide +kernel
theorem dX7_playAsEver_37 : decode cX7_playAsEver 37 = .ok (.iinc 3 1, 3) := by decide +kernel
theorem dX7_playAsEver_40 : decode cX7_playAsEver 40 = .ok (.goto (-25), 3) := by decide +kernel
theorem dX7_playAsEver_43 : decode cX7_playAsEver 43 = .ok (.aload_n 0, 1) := by decide +kernel
theorem dX7_playAsEver_44 : decode cX7_playAsEver 44 = .ok (.getfield 45, 3) := by decide +kernel
theorem dX7_playAsEver_47 : decode cX7_playAsEver 47 = .ok (.getfield 276, 3) := by decide +kernel
theorem dX7_playAsEver_50 : decode cX7_playAsEver 50 = .ok (.ireturn, 1) := by decide +kernel
theorem oG_playAsEver : zok yX7_playAsEver 2 := by decide +kernel
theorem dX4_begin_0 : decode cX4_begin 0 = .ok (.aload_n 1, 1) := by decide +kernel
theorem dX4_begin_1 : decode cX4_begin 1 = .ok (.getfield 28, 3) := by decide +kernel
theorem dX4_begin_4 : decode cX4_begin 4 = .ok (.iload_n 3, 1) := by decide +kernel
theorem dX4_begin_5 : decode cX4_begin 5 = .ok (.aaload, 1) := by decide +kernel
theorem dX4_begin_6 : decode cX4_begin 6 = .ok (.astore 4, 2) := by decide +kernel
theorem dX4_begin_8 : decode cX4_begin 8 = .ok (.aload_n 0, 1) := by decide +kernel
theorem dX4_begin_9 : decode cX4_begin 9 = .ok (.aload 4, 2) := by decide +kernel
theorem dX4_begin_11 : decode cX4_begin 11 = .ok (.invokevirtual 34, 3) := by decide +kernel
theorem dX4_begin_14 : decode cX4_begin 14 = .ok (.putfield 40, 3) := by decide +kernel
theorem dX4_begin_17 : decode cX4_begin 17 = .ok (.iconst 0, 1) := by decide +kernel
theorem dX4_begin_18 : decode cX4_begin 18 = .ok (.istore 5, 2) := by decide +kernel
theorem dX4_begin_20 : decode cX4_begin 20 = .ok (.iload 5, 2) := by decide +kernel
theorem dX4_begin_22 : decode cX4_begin 22 = .ok (.aload_n 1, 1) := by decide +kernel
theorem dX4_begin_23 : decode cX4_begin 23 = .ok (.getfield 43, 3) := by decide +kernel
theorem dX4_begin_26 : decode cX4_begin 26 = .ok (.if_icmp .ge 121, 3) := by decide +kernel
theorem dX4_begin_29 : decode cX4_begin 29 = .ok (.aload_n 1, 1) := by decide +kernel
theorem dX4_begin_30 : decode cX4_begin 30 = .ok (.getfield 28, 3) := by decide +kernel
theorem dX4_begin_33 : decode cX4_begin 33 = .ok (.iload 5, 2) := by decide +kernel
theorem dX4_begin_35 : decode cX4_begin 35 = .ok (.aaload, 1) := by decide +kernel
theorem dX4_begin_36 : decode cX4_begin 36 = .ok (.astore 6, 2) := by decide +kernel
theorem dX4_begin_38 : decode cX4_begin 38 = .ok (.aload_n 0, 1) := by decide +kernel
theorem dX4_begin_39 : decode cX4_begin 39 = .ok (.getfield 15, 3) := by decide +kernel
theorem dX4_begin_42 : decode cX4_begin 42 = .ok (.iload 5, 2) := by decide +kernel
theorem dX4_begin_44 : decode cX4_begin 44 = .ok (.aload 6, 2) := by decide +kernel
theorem dX4_begin_46 : decode cX4_begin 46 = .ok (.getfield 46, 3) := by decide +kernel
theorem dX4_begin_49 : decode cX4_begin 49 = .ok (.iconst 2, 1) := by decide +kernel
theorem dX4_begin_50 : decode cX4_begin 50 = .ok (.invokestatic 49, 3) := by decide +kernel
theorem dX4_begin_53 : decode cX4_begin 53 = .ok (.ifCond .eq 10, 3) := by decide +kernel
theorem dX4_begin_56 : decode cX4_begin 56 = .ok (.aload_n 2, 1) := by decide +kernel
theorem dX4_begin_57 : decode cX4_begin 57 = .ok (.getfield 53, 3) := by decide +kernel
theorem dX4_begin_60 : decode cX4_begin 60 = .ok (.goto 4, 3) := by decide +kernel
theorem dX4_begin_63 : decode cX4_begin 63 = .ok (.iconst 0, 1) := by decide +kernel
theorem dX4_begin_64 : decode cX4_begin 64 = .ok (.iastore, 1) := by decide +kernel
theorem dX4_begin_65 : decode cX4_begin 65 = .ok (.aload_n 0, 1) := by decide +kernel
theorem dX4_begin_66 : decode cX4_begin 66 = .ok (.getfield 18, 3) := by decide +kernel
theorem dX4_begin_69 : decode cX4_begin 69 = .ok (.iload 5, 2) := by decide +kernel
theorem dX4_begin_71 : decode cX4_begin 71 = .ok (.aload 6, 2) := by decide +kernel
theorem dX4_begin_73 : decode cX4_begin 73 = .ok (.getfield 46, 3) := by decide +kernel
theorem dX4_begin_76 : decode cX4_begin 76 = .ok (.iconst 5, 1) := by decide +kernel
theorem dX4_begin_77 : decode cX4_begin 77 = .ok (.if_icmp .ne 7, 3) := by decide +kernel
theorem dX4_begin_80 : decode cX4_begin 80 = .ok (.iconst 1, 1) := by decide +kernel
theorem dX4_begin_81 : decode cX4_begin 81 = .ok (.goto 4, 3) := by decide +kernel
theorem dX4_begin_84 : decode cX4_begin 84 = .ok (.iconst 0, 1) := by decide +kernel
theorem dX4_begin_85 : decode cX4_begin 85 = .ok (.bastore, 1) := by decide +kernel
theorem dX4_begin_86 : decode cX4_begin 86 = .ok (.iconst 0, 1) := by decide +kernel
theorem dX4_begin_87 : decode cX4_begin 87 = .ok (.istore 7, 2) := by decide +kernel
theorem dX4_begin_89 : decode cX4_begin 89 = .ok (.iload 7, 2) := by decide +kernel
theorem dX4_begin_91 : decode cX4_begin 91 = .ok (.iconst 3, 1) := by decide +kernel
theorem dX4_begin_92 : decode cX4_begin 92 = .ok (.if_icmp .ge 49, 3) := by decide +kernel
theorem dX4_begin_95 : decode cX4_begin 95 = .ok (.iload 5, 2) := by decide +kernel
theorem dX4_begin_97 : decode cX4_begin 97 = .ok (.iload_n 3, 1) := by decide +kernel
theorem dX4_begin_98 : decode cX4_begin 98 = .ok (.if_icmp .eq 43, 3) := by decide +kernel
theorem dX4_begin_101 : decode cX4_begin 101 = .ok (.aload_n 0, 1) := by decide +kernel
theorem dX4_begin_102 : decode cX4_begin 102 = .ok (.getfield 9, 3) := by decide +kernel
theorem dX4_begin_105 : decode cX4_begin 105 = .ok (.iload 5, 2) := by decide +kernel
theorem dX4_begin_107 : decode cX4_begin 107 = .ok (.iconst 3, 1) := by decide +kernel
theorem dX4_begin_108 : decode cX4_begin 108 = .ok (.imul, 1) := by decide +kernel
theorem dX4_begin_109 : decode cX4_begin 109 = .ok (.iload 7, 2) := by decide +kernel
theorem dX4_begin_111 : decode cX4_begin 111 = .ok (.iadd, 1) := by decide +kernel
theorem dX4_begin_112 : decode cX4_begin 112 = .ok (.aload_n 2, 1) := by decide +kernel
theorem dX4_begin_113 : decode cX4_begin 113 = .ok (.aload 6, 2) := by decide +kernel
theorem dX4_begin_115 : decode cX4_begin 115 = .ok (.aload 4, 2) := by decide +kernel
theorem dX4_begin_117 : decode cX4_begin 117 = .ok (.iload 7, 2) := by decide +kernel
theorem dX4_begin_119 : decode cX4_begin 119 = .ok (.invokevirtual 58, 3) := by decide +kernel
theorem dX4_begin_122 : decode cX4_begin 122 = .ok (.aload_n 0, 1) := by decide +kernel
theorem dX4_begin_123 : decode cX4_begin 123 = .ok (.aload 6, 2) := by decide +kernel
theorem dX4_begin_125 : decode cX4_begin 125 = .ok (.aload 4, 2) := by decide +kernel
theorem dX4_begin_127 : decode cX4_begin 127 = .ok (.iload 7, 2) := by decide +kernel
theorem dX4_begin_129 : decode cX4_begin 129 = .ok (.aload_n 1, 1) := by decide +kernel
theorem dX4_begin_130 : decode cX4_begin 130 = .ok (.invokevirtual 62, 3) := by decide +kernel
theorem dX4_begin_133 : decode cX4_begin 133 = .ok (.iadd, 1) := by decide +kernel
theorem dX4_begin_134 : decode cX4_begin 134 = .ok (.iastore, 1) := by decide +kernel
theorem dX4_begin_135 : decode cX4_begin 135 = .ok (.iinc 7 1, 3) := by decide +kernel
theorem dX4_begin_138 : decode cX4_begin 138 = .ok (.goto (-49), 3) := by decide +kernel
theorem dX4_begin_141 : decode cX4_begin 141 = .ok (.iinc 5 1, 3) := by decide +kernel
theorem dX4_begin_144 : decode cX4_begin 144 = .ok (.goto (-124), 3) := by decide +kernel
theorem dX4_begin_147 : decode cX4_begin 147 = .ok (.aload_n 0, 1) := by decide +kernel
theorem dX4_begin_148 : decode cX4_begin 148 = .ok (.invokevirtual 66, 3) := by decide +kernel
theorem dX4_begin_151 : decode cX4_begin 151 = .ok (.return_, 1) := by decide +kernel
theorem oY_begin : zok yX4_begin 3 := by decide +kernel
theorem dX3_placeOfLie_0 : decode cX3_placeOfLie 0 = .ok (.aload_n 0, 1) := by decide +kernel
theorem dX3_placeOfLie_1 : decode cX3_placeOfLie 1 = .ok (.getfield 18, 3) := by decide +kernel
theorem dX3_placeOfLie_4 : decode cX3_placeOfLie 4 = .ok (.iconst 0, 1) := by decide +kernel
theorem dX3_placeOfLie_5 : decode cX3_placeOfLie 5 = .ok (.iaload, 1) := by decide +kernel
theorem dX3_placeOfLie_6 : decode cX3_placeOfLie 6 = .ok (.aload_n 0, 1) := by decide +kernel
theorem dX3_placeOfLie_7 : decode cX3_placeOfLie 7 = .ok (.getfield 37, 3) := by decide +kernel
theorem dX3_placeOfLie_10 : decode cX3_placeOfLie 10 = .ok (.if_icmp .ne 7, 3) := by decide +kernel
theorem dX3_placeOfLie_13 : decode cX3_placeOfLie 13 = .ok (.iconst 0, 1) := by decide +kernel
theorem dX3_placeOfLie_14 : decode cX3_placeOfLie 14 = .ok (.goto 21, 3) := by decide +kernel
theorem dX3_placeOfLie_17 : decode cX3_placeOfLie 17 = .ok (.aload_n 0, 1) := by decide +kernel
theorem dX3_placeOfLie_18 : decode cX3_placeOfLie 18 = .ok (.getfield 18, 3) := by decide +kernel
theorem dX3_placeOfLie_21 : decode cX3_placeOfLie 21 = .ok (.iconst 1, 1) := by decide +kernel
theorem dX3_placeOfLie_22 : decode cX3_placeOfLie 22 = .ok (.iaload, 1) := by decide +kernel
theorem dX3_placeOfLie_23 : decode cX3_placeOfLie 23 = .ok (.aload_n 0, 1) := by decide +kernel
theorem dX3_placeOfLie_24 : decode cX3_placeOfLie 24 = .ok (.getfield 37, 3) := by decide +kernel
theorem dX3_placeOfLie_27 : decode cX3_placeOfLie 27 = .ok (.if_icmp .ne 7, 3) := by decide +kernel
theorem dX3_placeOfLie_30 : decode cX3_placeOfLie 30 = .ok (.iconst 1, 1) := by decide +kernel
theorem dX3_placeOfLie_31 : decode cX3_placeOfLie 31 = .ok (.goto 4, 3) := by decide +kernel
theorem dX3_placeOfLie_34 : decode cX3_placeOfLie 34 = .ok (.iconst 2, 1) := by decide +kernel
theorem dX3_placeOfLie_35 : decode cX3_placeOfLie 35 = .ok (.ireturn, 1) := by decide +kernel
theorem oN_placeOfLie : zok yX3_placeOfLie 0 := by decide +kernel
theorem dX7_isOfKind_0 : decode cX7_isOfKind 0 = .ok (.iload_n 0, 1) := by decide +kernel
theorem dX7_isOfKind_1 : decode cX7_isOfKind 1 = .ok (.istore_n 2, 1) := by decide +kernel
theorem dX7_isOfKind_2 : decode cX7_isOfKind 2 = .ok (.iconst 0, 1) := by decide +kernel
theorem dX7_isOfKind_3 : decode cX7_isOfKind 3 = .ok (.istore_n 3, 1) := by decide +kernel
theorem dX7_isOfKind_4 : decode cX7_isOfKind 4 = .ok (.iload_n 3, 1) := by decide +kernel
theorem dX7_isOfKind_5 : decode cX7_isOfKind 5 = .ok (.bipush 7, 2) := by decide +kernel
theorem dX7_isOfKind_7 : decode cX7_isOfKind 7 = .ok (.if_icmp .ge 26, 3) := by decide +kernel
theorem dX7_isOfKind_10 : decode cX7_isOfKind 10 = .ok (.iload_n 2, 1) := by decide +kernel
theorem dX7_isOfKind_11 : decode cX7_isOfKind 11 = .ok (.ifCond .lt 22, 3) := by decide +kernel
theorem dX7_isOfKind_14 : decode cX7_isOfKind 14 = .ok (.iload_n 2, 1) := by decide +kernel
theorem dX7_isOfKind_15 : decode cX7_isOfKind 15 = .ok (.iload_n 1, 1) := by decide +kernel
theorem dX7_isOfKind_16 : decode cX7_isOfKind 16 = .ok (.if_icmp .ne 5, 3) := by decide +kernel
theorem dX7_isOfKind_19 : decode cX7_isOfKind 19 = .ok (.iconst 1, 1) := by decide +kernel
theorem dX7_isOfKind_20 : decode cX7_isOfKind 20 = .ok (.ireturn, 1) := by decide +kernel
theorem dX7_isOfKind_21 : decode cX7_isOfKind 21 = .ok (.getstatic 269, 3) := by decide +kernel
theorem dX7_isOfKind_24 : decode cX7_isOfKind 24 = .ok (.iload_n 2, 1) := by decide +kernel
theorem dX7_isOfKind_25 : decode cX7_isOfKind 25 = .ok (.iaload, 1) := by decide +kernel
theorem dX7_isOfKind_26 : decode cX7_isOfKind 26 = .ok (.istore_n 2, 1) := by decide +kernel
theorem dX7_isOfKind_27 : decode cX7_isOfKind 27 = .ok (.iinc 3 1, 3) := by decide +kernel
theorem dX7_isOfKind_30 : decode cX7_isOfKind 30 = .ok (.goto (-26), 3) := by decide +kernel
theorem dX7_isOfKind_33 : decode cX7_isOfKind 33 = .ok (.iconst 0, 1) := by decide +kernel
theorem dX7_isOfKind_34 : decode cX7_isOfKind 34 = .ok (.ireturn, 1) := by decide +kernel
theorem oG_isOfKind : zok yX7_isOfKind 2 := by decide +kernel
theorem dX4_addedTo_0 : decode cX4_addedTo 0 = .ok (.iconst 0, 1) := by decide +kernel
theorem dX4_addedTo_1 : decode cX4_addedTo 1 = .ok (.istore 5, 2) := by decide +kernel
theorem dX4_addedTo_3 : decode cX4_addedTo 3 = .ok (.aload_n 1, 1) := by decide +kernel
theorem dX4_addedTo_4 : decode cX4_addedTo 4 = .ok (.getfield 46, 3) := by decide +kernel
theorem dX4_addedTo_7 : decode cX4_addedTo 7 = .ok (.iconst 1, 1) := by decide +kernel
theorem dX4_addedTo_8 : decode cX4_addedTo 8 = .ok (.invokestatic 49, 3) := by decide +kernel
theorem dX4_addedTo_11 : decode cX4_addedTo 11 = .ok (.ifCond .eq 21, 3) := by decide +kernel
theorem dX4_addedTo_14 : decode cX4_addedTo 14 = .ok (.iload 5, 2) := by decide +kernel
theorem dX4_addedTo_16 : decode cX4_addedTo 16 = .ok (.iconst 2, 1) := by decide +kernel
theorem dX4_addedTo_17 : decode cX4_addedTo 17 = .ok (.aload_n 2, 1) := by decide +kernel
theorem dX4_addedTo_18 : decode cX4_addedTo 18 = .ok (.getfield 69, 3) := by decide +kernel
theorem dX4_addedTo_21 : decode cX4_addedTo 21 = .ok (.aload_n 2, 1) := by decide +kernel
theorem dX4_addedTo_22 : decode cX4_addedTo 22 = .ok (.getfield 72, 3) := by decide +kernel
theorem dX4_addedTo_25 : decode cX4_addedTo 25 = .ok (.iload_n 3, 1) := by decide +kernel
theorem dX4_addedTo_26 : decode cX4_addedTo 26 = .ok (.iaload, 1) := by decide +kernel
theorem dX4_addedTo_27 : decode cX4_addedTo 27 = .ok (.iaload, 1) := by decide +kernel
theorem dX4_addedTo_28 : decode cX4_addedTo 28 = .ok (.imul, 1) := by decide +kernel
theorem dX4_addedTo_29 : decode cX4_addedTo 29 = .ok (.iadd, 1) := by decide +kernel
theorem dX4_addedTo_30 : decode cX4_addedTo 30 = .ok (.istore 5, 2) := by decide +kernel
theorem dX4_addedTo_32 : decode cX4_addedTo 32 = .ok (.aload_n 1, 1) := by decide +kernel
theorem dX4_addedTo_33 : decode cX4_addedTo 33 = .ok (.getfield 46, 3) := by decide +kernel
theorem dX4_addedTo_36 : decode cX4_addedTo 36 = .ok (.iconst 4, 1) := by decide +kernel
theorem dX4_addedTo_37 : decode cX4_addedTo 37 = .ok (.if_icmp .ne 11, 3) := by decide +kernel
theorem dX4_addedTo_40 : decode cX4_addedTo 40 = .ok (.iload_n 3, 1) := by decide +kernel
theorem dX4_addedTo_41 : decode cX4_addedTo 41 = .ok (.iconst 2, 1) := by decide +kernel
theorem dX4_addedTo_42 : decode cX4_addedTo 42 = .ok (.if_icmp .ne 6, 3) := by decide +kernel
theorem dX4_addedTo_45 : decode cX4_addedTo 45 = .ok (.iinc 5 30, 3) := by decide +kernel
theorem dX4_addedTo_48 : decode cX4_addedTo 48 = .ok (.aload_n 1, 1) := by decide +kernel
theorem dX4_addedTo_49 : decode cX4_addedTo 49 = .ok (.getfield 46, 3) := by decide +kernel
theorem dX4_addedTo_52 : decode cX4_addedTo 52 = .ok (.iconst 3, 1) := by decide +kernel
theorem dX4_addedTo_53 : decode cX4_addedTo 53 = .ok (.invokestatic 49, 3) := by decide +kernel
theorem dX4_addedTo_56 : decode cX4_addedTo 56 = .ok (.ifCond .eq 35, 3) := by decide +kernel
theorem dX4_addedTo_59 : decode cX4_addedTo 59 = .ok (.iload_n 3, 1) := by decide +kernel
theorem dX4_addedTo_60 : decode cX4_addedTo 60 = .ok (.aload_n 0, 1) := by decide +kernel
theorem dX4_addedTo_61 : decode cX4_addedTo 61 = .ok (.getfield 40, 3) := by decide +kernel
theorem dX4_addedTo_64 : decode cX4_addedTo 64 = .ok (.if_icmp .ne 27, 3) := by decide +kernel
theorem dX4_addedTo_67 : decode cX4_addedTo 67 = .ok (.aload_n 1, 1) := by decide +kernel
theorem dX4_addedTo_68 : decode cX4_addedTo 68 = .ok (.aload_n 2, 1) := by decide +kernel
theorem dX4_addedTo_69 : decode cX4_addedTo 69 = .ok (.aload 4, 2) := by decide +kernel
theorem dX4_addedTo_71 : decode cX4_addedTo 71 = .ok (.getfield 43, 3) := by decide +kernel
theorem dX4_addedTo_74 : decode cX4_addedTo 74 = .ok (.invokestatic 75, 3) := by decide +kernel
theorem dX4_addedTo_77 : decode cX4_addedTo 77 = .ok (.ifCond .eq 14, 3) := by decide +kernel
theorem dX4_addedTo_80 : decode cX4_addedTo 80 = .ok (.iload 5, 2) := by decide +kernel
theorem dX4_addedTo_82 : decode cX4_addedTo 82 = .ok (.iconst 5, 1) := by decide +kernel
theorem dX4_addedTo_83 : decode cX4_addedTo 83 = .ok (.aload_n 1, 1) := by decide +kernel
theorem dX4_addedTo_84 : decode cX4_addedTo 84 = .ok (.getfield 79, 3) := by decide +kernel
theorem dX4_addedTo_87 : decode cX4_addedTo 87 = .ok (.imul, 1) := by decide +kernel
theorem dX4_addedTo_88 : decode cX4_addedTo 88 = .ok (.iadd, 1) := by decide +kernel
theorem dX4_addedTo_89 : decode cX4_addedTo 89 = .ok (.istore 5, 2) := by decide +kernel
theorem dX4_addedTo_91 : decode cX4_addedTo 91 = .ok (.aload_n 1, 1) := by decide +kernel
theorem dX4_addedTo_92 : decode cX4_addedTo 92 = .ok (.getfield 46, 3) := by decide +kernel
theorem dX4_addedTo_95 : decode cX4_addedTo 95 = .ok (.bipush 6, 2) := by decide +kernel
theorem dX4_addedTo_97 : decode cX4_addedTo 97 = .ok (.if_icmp .ne 22, 3) := by decide +kernel
theorem dX4_addedTo_100 : decode cX4_addedTo 100 = .ok (.aload_n 1, 1) := by decide +kernel
theorem dX4_addedTo_101 : decode cX4_addedTo 101 = .ok (.getfield 82, 3) := by decide +kernel
theorem dX4_addedTo_104 : decode cX4_addedTo 104 = .ok (.aload 4, 2) := by decide +kernel
theorem dX4_addedTo_106 : decode cX4_addedTo 106 = .ok (.getfield 85, 3) := by decide +kernel
theorem dX4_addedTo_109 : decode cX4_addedTo 109 = .ok (.iconst 4, 1) := by decide +kernel
theorem dX4_addedTo_110 : decode cX4_addedTo 110 = .ok (.irem, 1) := by decide +kernel
theorem dX4_addedTo_111 : decode cX4_addedTo 111 = .ok (.iaload, 1) := by decide +kernel
theorem dX4_addedTo_112 : decode cX4_addedTo 112 = .ok (.iload_n 3, 1) := by decide +kernel
theorem dX4_addedTo_113 : decode cX4_addedTo 113 = .ok (.if_icmp .ne 6, 3) := by decide +kernel
theorem dX4_addedTo_116 : decode cX4_addedTo 116 = .ok (.iinc 5 40, 3) := by decide +kernel
theorem dX4_addedTo_119 : decode cX4_addedTo 119 = .ok (.iload 5, 2) := by decide +kernel
theorem dX4_addedTo_121 : decode cX4_addedTo 121 = .ok (.ireturn, 1) := by decide +kernel
theorem oY_addedTo : zok yX4_addedTo 4 := by decide +kernel
theorem dX4_knows_0 : decode cX4_knows 0 = .ok (.iload_n 2, 1) := by decide +kernel
theorem dX4_knows_1 : decode cX4_knows 1 = .ok (.ifCond .le 20, 3) := by decide +kernel
theorem dX4_knows_4 : decode cX4_knows 4 = .ok (.aload_n 0, 1) := by decide +kernel
theorem dX4_knows_5 : decode cX4_knows 5 = .ok (.getfield 79, 3) := by decide +kernel
theorem dX4_knows_8 : decode cX4_knows 8 = .ok (.iload_n 2, 1) := by decide +kernel
theorem dX4_knows_9 : decode cX4_knows 9 = .ok (.irem, 1) := by decide +kernel
theorem dX4_knows_10 : decode cX4_knows 10 = .ok (.aload_n 1, 1) := by decide +kernel
theorem dX4_knows_11 : decode cX4_knows 11 = .ok (.getfield 88, 3) := by decide +kernel
theorem dX4_knows_14 : decode cX4_knows 14 = .ok (.if_icmp .ne 7, 3) := by decide +kernel
theorem dX4_knows_17 : decode cX4_knows 17 = .ok (.iconst 1, 1) := by decide +kernel
theorem dX4_knows_18 : decode cX4_knows 18 = .ok (.goto 4, 3) := by decide +kernel
theorem dX4_knows_21 : decode cX4_knows 21 = .ok (.iconst 0, 1) := by decide +kernel
theorem dX4_knows_22 : decode cX4_knows 22 = .ok (.ireturn, 1) := by decide +kernel
theorem oY_knows : zok yX4_knows 3 := by decide +kernel
theorem dX4_lowerHands_0 : decode cX4_lowerHands 0 = .ok (.aload_n 0, 1) := by decide +kernel
theorem dX4_lowerHands_1 : decode cX4_lowerHands 1 = .ok (.iconst 0, 1) := by decide +kernel
theorem dX4_lowerHands_2 : decode cX4_lowerHands 2 = .ok (.putfield 91, 3) := by decide +kernel
theorem dX4_lowerHands_5 : decode cX4_lowerHands 5 = .ok (.iconst 0, 1) := by decide +kernel
theorem dX4_lowerHands_6 : decode cX4_lowerHands 6 = .ok (.istore_n 1, 1) := by decide +kernel
theorem dX4_lowerHands_7 : decode cX4_lowerHands 7 = .ok (.iload_n 1, 1) := by decide +kernel
theorem dX4_lowerHands_8 : decode cX4_lowerHands 8 = .ok (.iconst 3, 1) := by decide +kernel
theorem dX4_lowerHands_9 : decode cX4_lowerHands 9 = .ok (.if_icmp .ge 16, 3) := by decide +kernel
theorem dX4_lowerHands_12 : decode cX4_lowerHands 12 = .ok (.aload_n 0, 1) := by decide +kernel
theorem dX4_lowerHands_13 : decode cX4_lowerHands 13 = .ok (.getfield 22, 3) := by decide +kernel
theorem dX4_lowerHands_16 : decode cX4_lowerHands 16 = .ok (.iload_n 1, 1) := by decide +kernel
theorem dX4_lowerHands_17 : decode cX4_lowerHands 17 = .ok (.iconst 0, 1) := by decide +kernel
theorem dX4_lowerHands_18 : decode cX4_lowerHands 18 = .ok (.iastore, 1) := by decide +kernel
theorem dX4_lowerHands_19 : decode cX4_lowerHands 19 = .ok (.iinc 1 1, 3) := by decide +kernel
theorem dX4_lowerHands_22 : decode cX4_lowerHands 22 = .ok (.goto (-15), 3) := by decide +kernel
theorem dX4_lowerHands_25 : decode cX4_lowerHands 25 = .ok (.return_, 1) := by decide +kernel
theorem oY_lowerHands : zok yX4_lowerHands 0 := by decide +kernel
theorem dX4_letGuess_0 : decode cX4_letGuess 0 = .ok (.aload_n 0, 1) := by decide +kernel
theorem dX4_letGuess_1 : decode cX4_letGuess 1 = .ok (.getfield 18, 3) := by decide +kernel
theorem dX4_letGuess_4 : decode cX4_letGuess 4 = .ok (.iload_n 1, 1) := by decide +kernel
theorem dX4_letGuess_5 : decode cX4_letGuess 5 = .ok (.baload, 1) := by decide +kernel
theorem dX4_letGuess_6 : decode cX4_letGuess 6 = .ok (.ifCond .eq 30, 3) := by decide +kernel
theorem dX4_letGuess_9 : decode cX4_letGuess 9 = .ok (.aload_n 0, 1) := by decide +kernel
theorem dX4_letGuess_10 : decode cX4_letGuess 10 = .ok (.getfield 22, 3) := by decide +kernel
theorem dX4_letGuess_13 : decode cX4_letGuess 13 = .ok (.iconst 0, 1) := by decide +kernel
theorem dX4_letGuess_14 : decode cX4_letGuess 14 = .ok (.iaload, 1) := by decide +kernel
theorem dX4_letGuess_15 : decode cX4_letGuess 15 = .ok (.aload_n 0, 1) := by decide +kernel
theorem dX4_letGuess_16 : decode cX4_letGuess 16 = .ok (.getfield 22, 3) := by decide +kernel
theorem dX4_letGuess_19 : decode cX4_letGuess 19 = .ok (.iconst 1, 1) := by decide +kernel
theorem dX4_letGuess_20 : decode cX4_letGuess 20 = .ok (.iaload, 1) := by decide +kernel
theorem dX4_letGuess_21 : decode cX4_letGuess 21 = .ok (.iadd, 1) := by decide +kernel
theorem dX4_letGuess_22 : decode cX4_letGuess 22 = .ok (.aload_n 0, 1) := by decide +kernel
theorem dX4_letGuess_23 : decode cX4_letGuess 23 = .ok (.getfield 22, 3) := by decide +kernel
theorem dX4_letGuess_26 : decode cX4_letGuess 26 = .ok (.iconst 2, 1) := by decide +kernel
theorem dX4_letGuess_27 : decode cX4_letGuess 27 = .ok (.iaload, 1) := by decide +kernel
theorem dX4_letGuess_28 : decode cX4_letGuess 28 = .ok (.iadd, 1) := by decide +kernel
theorem dX4_letGuess_29 : decode cX4_letGuess 29 = .ok (.ifCond .le 7, 3) := by decide +kernel
theorem dX4_letGuess_32 : decode cX4_letGuess 32 = .ok (.iconst 1, 1) := by decide +kernel
theorem dX4_letGuess_33 : decode cX4_letGuess 33 = .ok (.goto 4, 3) := by decide +kernel
theorem dX4_letGuess_36 : decode cX4_letGuess 36 = .ok (.iconst 0, 1) := by decide +kernel
theorem dX4_letGuess_37 : decode cX4_letGuess 37 = .ok (.istore_n 2, 1) := by decide +kernel
theorem dX4_letGuess_38 : decode cX4_letGuess 38 = .ok (.iconst 0, 1) := by decide +kernel
theorem dX4_letGuess_39 : decode cX4_letGuess 39 = .ok (.istore_n 3, 1) := by decide +kernel
theorem dX4_letGuess_40 : decode cX4_letGuess 40 = .ok (.iconst 0, 1) := by decide +kernel
theorem dX4_letGuess_41 : decode cX4_letGuess 41 = .ok (.istore 4, 2) := by decide +kernel
theorem dX4_letGuess_43 : decode cX4_letGuess 43 = .ok (.iconst 0, 1) := by decide +kernel
theorem dX4_letGuess_44 : decode cX4_letGuess 44 = .ok (.istore 5, 2) := by decide +kernel
theorem dX4_letGuess_46 : decode cX4_letGuess 46 = .ok (.iload 5, 2) := by decide +kernel
theorem dX4_letGuess_48 : decode cX4_letGuess 48 = .ok (.iconst 3, 1) := by decide +kernel
theorem dX4_letGuess_49 : decode cX4_letGuess 49 = .ok (.if_icmp .ge 64, 3) := by decide +kernel
theorem dX4_letGuess_52 : decode cX4_letGuess 52 = .ok (.aload_n 0, 1) := by decide +kernel
theorem dX4_letGuess_53 : decode cX4_letGuess 53 = .ok (.getfield 15, 3) := by decide +kernel
theorem dX4_letGuess_56 : decode cX4_letGuess 56 = .ok (.iload_n 1, 1) := by decide +kernel
theorem dX4_letGuess_57 : decode cX4_letGuess 57 = .ok (.iaload, 1) := by decide +kernel
theorem dX4_letGuess_58 : decode cX4_letGuess 58 = .ok (.aload_n 0, 1) := by decide +kernel
theorem dX4_letGuess_59 : decode cX4_letGuess 59 = .ok (.getfield 22, 3) := by decide +kernel
theorem dX4_letGuess_62 : decode cX4_letGuess 62 = .ok (.iload 5, 2) := by decide +kernel
theorem dX4_letGuess_64 : decode cX4_letGuess 64 = .ok (.iaload, 1) := by decide +kernel
theorem dX4_letGuess_65 : decode cX4_letGuess 65 = .ok (.imul, 1) := by decide +kernel
theorem dX4_letGuess_66 : decode cX4_letGuess 66 = .ok (.istore 6, 2) := by decide +kernel
theorem dX4_letGuess_68 : decode cX4_letGuess 68 = .ok (.iload_n 2, 1) := by decide +kernel
theorem dX4_letGuess_69 : decode cX4_letGuess 69 = .ok (.ifCond .ne 19, 3) := by decide +kernel
theorem dX4_letGuess_72 : decode cX4_letGuess 72 = .ok (.iload 6, 2) := by decide +kernel
theorem dX4_letGuess_74 : decode cX4_letGuess 74 = .ok (.aload_n 0, 1) := by decide +kernel
theorem dX4_letGuess_75 : decode cX4_letGuess 75 = .ok (.getfield 9, 3) := by decide +kernel
theorem dX4_letGuess_78 : decode cX4_letGuess 78 = .ok (.iload_n 1, 1) := by decide +kernel
theorem dX4_letGuess_79 : decode cX4_letGuess 79 = .ok (.iconst 3, 1) := by decide +kernel
theorem dX4_letGuess_80 : decode cX4_letGuess 80 = .ok (.imul, 1) := by decide +kernel
theorem dX4_letGuess_81 : decode cX4_letGuess 81 = .ok (.iload 5, 2) := by decide +kernel
theorem dX4_letGuess_83 : decode cX4_letGuess 83 = .ok (.iadd, 1) := by decide +kernel
theorem dX4_letGuess_84 : decode cX4_letGuess 84 = .ok (.iaload, 1) := by decide +kernel
theorem dX4_letGuess_85 : decode cX4_letGuess 85 = .ok (.iadd, 1) := by decide +kernel
theorem dX4_letGuess_86 : decode cX4_letGuess 86 = .ok (.istore 6, 2) := by decide +kernel
theorem dX4_letGuess_88 : decode cX4_letGuess 88 = .ok (.iload 5, 2) := by decide +kernel
theorem dX4_letGuess_90 : decode cX4_letGuess 90 = .ok (.ifCond .eq 10, 3) := by decide +kernel
theorem dX4_letGuess_93 : decode cX4_letGuess 93 = .ok (.iload 6, 2) := by decide +kernel
theorem dX4_letGuess_95 : decode cX4_letGuess 95 = .ok (.iload 4, 2) := by decide +kernel
theorem dX4_letGuess_97 : decode cX4_letGuess 97 = .ok (.if_icmp .le 10, 3) := by decide +kernel
theorem dX4_letGuess_100 : decode cX4_letGuess 100 = .ok (.iload 6, 2) := by decide +kernel
theorem dX4_letGuess_102 : decode cX4_letGuess 102 = .ok (.istore 4, 2) := by decide +kernel
theorem dX4_letGuess_104 : decode cX4_letGuess 104 = .ok (.iload 5, 2) := by decide +kernel
theorem dX4_letGuess_106 : decode cX4_letGuess 106 = .ok (.istore_n 3, 1) := by decide +kernel
theorem dX4_letGuess_107 : decode cX4_letGuess 107 = .ok (.iinc 5 1, 3) := by decide +kernel
theorem dX4_letGuess_110 : decode cX4_letGuess 110 = .ok (.goto (-64), 3) := by decide +kernel
theorem dX4_letGuess_113 : decode cX4_letGuess 113 = .ok (.aload_n 0, 1) := by decide +kernel
theorem dX4_letGuess_114 : decode cX4_letGuess 114 = .ok (.getfield 25, 3) := by decide +kernel
theorem dX4_letGuess_117 : decode cX4_letGuess 117 = .ok (.iload_n 1, 1) := by decide +kernel
theorem dX4_letGuess_118 : decode cX4_letGuess 118 = .ok (.iload_n 3, 1) := by decide +kernel
theorem dX4_letGuess_119 : decode cX4_letGuess 119 = .ok (.iastore, 1) := by decide +kernel
theorem dX4_letGuess_120 : decode cX4_letGuess 120 = .ok (.aload_n 0, 1) := by decide +kernel
theorem dX4_letGuess_121 : decode cX4_letGuess 121 = .ok (.getfield 22, 3) := by decide +kernel
theorem dX4_letGuess_124 : decode cX4_letGuess 124 = .ok (.iload_n 3, 1) := by decide +kernel
theorem dX4_letGuess_125 : decode cX4_letGuess 125 = .ok (.dup2, 1) := by decide +kernel
theorem dX4_letGuess_126 : decode cX4_letGuess 126 = .ok (.iaload, 1) := by decide +kernel
theorem dX4_letGuess_127 : decode cX4_letGuess 127 = .ok (.iconst 1, 1) := by decide +kernel
theorem dX4_letGuess_128 : decode cX4_letGuess 128 = .ok (.iadd, 1) := by decide +kernel
theorem dX4_letGuess_129 : decode cX4_letGuess 129 = .ok (.iastore, 1) := by decide +kernel
theorem dX4_letGuess_130 : decode cX4_letGuess 130 = .ok (.iload_n 3, 1) := by decide +kernel
theorem dX4_letGuess_131 : decode cX4_letGuess 131 = .ok (.aload_n 0, 1) := by decide +kernel
theorem dX4_letGuess_132 : decode cX4_letGuess 132 = .ok (.getfield 40, 3) := by decide +kernel
theorem dX4_letGuess_135 : decode cX4_letGuess 135 = .ok (.if_icmp .eq 13, 3) := by decide +kernel
theorem dX4_letGuess_138 : decode cX4_letGuess 138 = .ok (.aload_n 0, 1) := by decide +kernel
theorem dX4_letGuess_139 : decode cX4_letGuess 139 = .ok (.dup, 1) := by decide +kernel
theorem dX4_letGuess_140 : decode cX4_letGuess 140 = .ok (.getfield 91, 3) := by decide +kernel
theorem dX4_letGuess_143 : decode cX4_letGuess 143 = .ok (.iconst 1, 1) := by decide +kernel
theorem dX4_letGuess_144 : decode cX4_letGuess 144 = .ok (.iadd, 1) := by decide +kernel
theorem dX4_letGuess_145 : decode cX4_letGuess 145 = .ok (.putfield 91, 3) := by decide +kernel
theorem dX4_letGuess_148 : decode cX4_letGuess 148 = .ok (.iload_n 3, 1) := by decide +kernel
theorem dX4_letGuess_149 : decode cX4_letGuess 149 = .ok (.ireturn, 1) := by decide +kernel
theorem oY_letGuess : zok yX4_letGuess 1 := by decide +kernel
theorem dX7_guess_0 : decode cX7_guess 0 = .ok (.aload_n 0, 1) := by decide +kernel
theorem dX7_guess_1 : decode cX7_guess 1 = .ok (.getfield 12, 3) := by decide +kernel
theorem dX7_guess_4 : decode cX7_guess 4 = .ok (.iload_n 1, 1) := by decide +kernel
theorem dX7_guess_5 : decode cX7_guess 5 = .ok (.invokevirtual 81, 3) := by decide +kernel
theorem dX7_guess_8 : decode cX7_guess 8 = .ok (.ifCond .eq 14, 3) := by decide +kernel
theorem dX7_guess_11 : decode cX7_guess 11 = .ok (.aload_n 0, 1) := by decide +kernel
theorem dX7_guess_12 : decode cX7_guess 12 = .ok (.getfield 12, 3) := by decide +kernel
theorem dX7_guess_15 : decode cX7_guess 15 = .ok (.iload_n 2, 1) := by decide +kernel
theorem dX7_guess_16 : decode cX7_guess 16 = .ok (.invokevirtual 81, 3) := by decide +kernel
theorem dX7_guess_19 : decode cX7_guess 19 = .ok (.ifCond .ne 5, 3) := by decide +kernel
theorem dX7_guess_22 : decode cX7_guess 22 = .ok (.iconst (-1), 1) := by decide +kernel
theorem dX7_guess_23 : decode cX7_guess 23 = .ok (.ireturn, 1) := by decide +kernel
theorem dX7_guess_24 : decode cX7_guess 24 = .ok (.iload_n 1, 1) := by decide +kernel
theorem dX7_guess_25 : decode cX7_guess 25 = .ok (.iload_n 2, 1) := by decide +kernel
theorem dX7_guess_26 : decode cX7_guess 26 = .ok (.if_icmp .ne 6, 3) := by decide +kernel
theorem dX7_guess_29 : decode cX7_guess 29 = .ok (.bipush (-2), 2) := by decide +kernel
theorem dX7_guess_31 : decode cX7_guess 31 = .ok (.ireturn, 1) := by decide +kernel
theorem dX7_guess_32 : decode cX7_guess 32 = .ok (.aload_n 0, 1) := by decide +kernel
theorem dX7_guess_33 : decode cX7_guess 33 = .ok (.aload_n 0, 1) := by decide +kernel
theorem dX7_guess_34 : decode cX7_guess 34 = .ok (.getfield 12, 3) := by decide +kernel
theorem dX7_guess_37 : decode cX7_guess 37 = .ok (.iload_n 2, 1) := by decide +kernel
theorem dX7_guess_38 : decode cX7_guess 38 = .ok (.invokevirtual 151, 3) := by decide +kernel
theorem dX7_guess_41 : decode cX7_guess 41 = .ok (.pop, 1) := by decide +kernel
theorem dX7_guess_42 : decode cX7_guess 42 = .ok (.aload_n 0, 1) := by decide +kernel
theorem dX7_guess_43 : decode cX7_guess 43 = .ok (.getfield 45, 3) := by decide +kernel
theorem dX7_guess_46 : decode cX7_guess 46 = .ok (.getfield 154, 3) := by decide +kernel
theorem dX7_guess_49 : decode cX7_guess 49 = .ok (.iload_n 1, 1) := by decide +kernel
theorem dX7_guess_50 : decode cX7_guess 50 = .ok (.iaload, 1) := by decide +kernel
theorem dX7_guess_51 : decode cX7_guess 51 = .ok (.ireturn, 1) := by decide +kernel
theorem oG_guess : zok yX7_guess 2 := by decide +kernel
theorem dX7_hands_0 : decode cX7_hands 0 = .ok (.aload_n 0, 1) := by decide +kernel
theorem dX7_hands_1 : decode cX7_hands 1 = .ok (.getfield 12, 3) := by decide +kernel
theorem dX7_hands_4 : decode cX7_hands 4 = .ok (.iload_n 1, 1) := by decide +kernel
theorem dX7_hands_5 : decode cX7_hands 5 = .ok (.invokevirtual 81, 3) := by decide +kernel
theorem dX7_hands_8 : decode cX7_hands 8 = .ok (.ifCond .eq 12, 3) := by decide +kernel
theorem dX7_hands_11 : decode cX7_hands 11 = .ok (.iload_n 2, 1) := by decide +kernel
theorem dX7_hands_12 : decode cX7_hands 12 = .ok (.ifCond .lt 8, 3) := by decide +kernel
theorem dX7_hands_15 : decode cX7_hands 15 = .ok (.iload_n 2, 1) := by decide +kernel
theorem dX7_hands_16 : decode cX7_hands 16 = .ok (.iconst 3, 1) := by decide +kernel
theorem dX7_hands_17 : decode cX7_hands 17 = .ok (.if_icmp .le 5, 3) := by decide +kernel
theorem dX7_hands_20 : decode cX7_hands 20 = .ok (.iconst (-1), 1) := by decide +kernel
theorem dX7_hands_21 : decode cX7_hands 21 = .ok (.ireturn, 1) := by decide +kernel
theorem dX7_hands_22 : decode cX7_hands 22 = .ok (.aload_n 0, 1) := by decide +kernel
theorem dX7_hands_23 : decode cX7_hands 23 = .ok (.aload_n 0, 1) := by decide +kernel
theorem dX7_hands_24 : decode cX7_hands 24 = .ok (.getfield 12, 3) := by decide +kernel
theorem dX7_hands_27 : decode cX7_hands 27 = .ok (.iload_n 1, 1) := by decide +kernel
theorem dX7_hands_28 : decode cX7_hands 28 = .ok (.invokevirtual 151, 3) := by decide +kernel
theorem dX7_hands_31 : decode cX7_hands 31 = .ok (.istore_n 3, 1) := by decide +kernel
theorem dX7_hands_32 : decode cX7_hands 32 = .ok (.iload_n 2, 1) := by decide +kernel
theorem dX7_hands_33 : decode cX7_hands 33 = .ok (.iconst 3, 1) := by decide +kernel
theorem dX7_hands_34 : decode cX7_hands 34 = .ok (.if_icmp .ne 7, 3) := by decide +kernel
theorem dX7_hands_37 : decode cX7_hands 37 = .ok (.iload_n 3, 1) := by decide +kernel
theorem dX7_hands_38 : decode cX7_hands 38 = .ok (.goto 12, 3) := by decide +kernel
theorem dX7_hands_41 : decode cX7_hands 41 = .ok (.aload_n 0, 1) := by decide +kernel
theorem dX7_hands_42 : decode cX7_hands 42 = .ok (.getfield 45, 3) := by decide +kernel
theorem dX7_hands_45 : decode cX7_hands 45 = .ok (.getfield 157, 3) := by decide +kernel
theorem dX7_hands_48 : decode cX7_hands 48 = .ok (.iload_n 2, 1) := by decide +kernel
theorem dX7_hands_49 : decode cX7_hands 49 = .ok (.iaload, 1) := by decide +kernel
theorem dX7_hands_50 : decode cX7_hands 50 = .ok (.ireturn, 1) := by decide +kernel
theorem oG_hands : zok yX7_hands 2 := by decide +kernel
