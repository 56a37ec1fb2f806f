theorem dX7_order_0 : decode cX7_order 0 = .ok (.aload_n 0, 1) := by decide +kernel
theorem dX7_order_1 : decode cX7_order 1 = .ok (.getfield 12, 3) := by decide +kernel
theorem dX7_order_4 : decode cX7_order 4 = .ok (.iload_n 1, 1) := by decide +kernel
theorem dX7_order_5 : decode cX7_order 5 = .ok (.invokevirtual 81, 3) := by decide +kernel
theorem dX7_order_8 : decode cX7_order 8 = .ok (.ifCond .eq 12, 3) := by decide +kernel
theorem dX7_order_11 : decode cX7_order 11 = .ok (.iload_n 2, 1) := by decide +kernel
theorem dX7_order_12 : decode cX7_order 12 = .ok (.ifCond .lt 8, 3) := by decide +kernel
theorem dX7_order_15 : decode cX7_order 15 = .ok (.iload_n 2, 1) := by decide +kernel
theorem dX7_order_16 : decode cX7_order 16 = .ok (.iconst 3, 1) := by decide +kernel
theorem dX7_order_17 : decode cX7_order 17 = .ok (.if_icmp .le 5, 3) := by decide +kernel
theorem dX7_order_20 : decode cX7_order 20 = .ok (.iconst (-1), 1) := by decide +kernel
theorem dX7_order_21 : decode cX7_order 21 = .ok (.ireturn, 1) := by decide +kernel
theorem dX7_order_22 : decode cX7_order 22 = .ok (.aload_n 0, 1) := by decide +kernel
theorem dX7_order_23 : decode cX7_order 23 = .ok (.getfield 21, 3) := by decide +kernel
theorem dX7_order_26 : decode cX7_order 26 = .ok (.aload_n 0, 1) := by decide +kernel
theorem dX7_order_27 : decode cX7_order 27 = .ok (.getfield 12, 3) := by decide +kernel
theorem dX7_order_30 : decode cX7_order 30 = .ok (.invokevirtual 160, 3) := by decide +kernel
theorem dX7_order_33 : decode cX7_order 33 = .ok (.iconst (-1), 1) := by decide +kernel
theorem dX7_order_34 : decode cX7_order 34 = .ok (.istore_n 3, 1) := by decide +kernel
theorem dX7_order_35 : decode cX7_order 35 = .ok (.iconst 0, 1) := by decide +kernel
theorem dX7_order_36 : decode cX7_order 36 = .ok (.istore 4, 2) := by decide +kernel
theorem dX7_order_38 : decode cX7_order 38 = .ok (.iconst 0, 1) := by decide +kernel
theorem dX7_order_39 : decode cX7_order 39 = .ok (.istore 5, 2) := by decide +kernel
theorem dX7_order_41 : decode cX7_order 41 = .ok (.iload 5, 2) := by decide +kernel
theorem dX7_order_43 : decode cX7_order 43 = .ok (.bipush 6, 2) := by decide +kernel
theorem dX7_order_45 : decode cX7_order 45 = .ok (.if_icmp .ge 63, 3) := by decide +kernel
theorem dX7_order_48 : decode cX7_order 48 = .ok (.aload_n 0, 1) := by decide +kernel
theorem dX7_order_49 : decode cX7_order 49 = .ok (.getfield 21, 3) := by decide +kernel
theorem dX7_order_52 : decode cX7_order 52 = .ok (.getfield 88, 3) := by decide +kernel
theorem dX7_order_55 : decode cX7_order 55 = .ok (.iload_n 1, 1) := by decide +kernel
theorem dX7_order_56 : decode cX7_order 56 = .ok (.aaload, 1) := by decide +kernel
theorem dX7_order_57 : decode cX7_order 57 = .ok (.getstatic 164, 3) := by decide +kernel
theorem dX7_order_60 : decode cX7_order 60 = .ok (.iload 5, 2) := by decide +kernel
theorem dX7_order_62 : decode cX7_order 62 = .ok (.iconst 3, 1) := by decide +kernel
theorem dX7_order_63 : decode cX7_order 63 = .ok (.imul, 1) := by decide +kernel
theorem dX7_order_64 : decode cX7_order 64 = .ok (.iaload, 1) := by decide +kernel
theorem dX7_order_65 : decode cX7_order 65 = .ok (.getstatic 164, 3) := by decide +kernel
theorem dX7_order_68 : decode cX7_order 68 = .ok (.iload 5, 2) := by decide +kernel
theorem dX7_order_70 : decode cX7_order 70 = .ok (.iconst 3, 1) := by decide +kernel
theorem dX7_order_71 : decode cX7_order 71 = .ok (.imul, 1) := by decide +kernel
theorem dX7_order_72 : decode cX7_order 72 = .ok (.iconst 1, 1) := by decide +kernel
theorem dX7_order_73 : decode cX7_order 73 = .ok (.iadd, 1) := by decide +kernel
theorem dX7_order_74 : decode cX7_order 74 = .ok (.iaload, 1) := by decide +kernel
theorem dX7_order_75 : decode cX7_order 75 = .ok (.invokevirtual 103, 3) := by decide +kernel
theorem dX7_order_78 : decode cX7_order 78 = .ok (.aload_n 0, 1) := by decide +kernel
theorem dX7_order_79 : decode cX7_order 79 = .ok (.aload_n 0, 1) := by decide +kernel
theorem dX7_order_80 : decode cX7_order 80 = .ok (.getfield 21, 3) := by decide +kernel
theorem dX7_order_83 : decode cX7_order 83 = .ok (.iload_n 1, 1) := by decide +kernel
theorem dX7_order_84 : decode cX7_order 84 = .ok (.invokevirtual 151, 3) := by decide +kernel
theorem dX7_order_87 : decode cX7_order 87 = .ok (.istore 6, 2) := by decide +kernel
theorem dX7_order_89 : decode cX7_order 89 = .ok (.iload 6, 2) := by decide +kernel
theorem dX7_order_91 : decode cX7_order 91 = .ok (.iload_n 3, 1) := by decide +kernel
theorem dX7_order_92 : decode cX7_order 92 = .ok (.if_icmp .le 10, 3) := by decide +kernel
theorem dX7_order_95 : decode cX7_order 95 = .ok (.iload 6, 2) := by decide +kernel
theorem dX7_order_97 : decode cX7_order 97 = .ok (.istore_n 3, 1) := by decide +kernel
theorem dX7_order_98 : decode cX7_order 98 = .ok (.iload 5, 2) := by decide +kernel
theorem dX7_order_100 : decode cX7_order 100 = .ok (.istore 4, 2) := by decide +kernel
theorem dX7_order_102 : decode cX7_order 102 = .ok (.iinc 5 1, 3) := by decide +kernel
theorem dX7_order_105 : decode cX7_order 105 = .ok (.goto (-64), 3) := by decide +kernel
theorem dX7_order_108 : decode cX7_order 108 = .ok (.iload_n 2, 1) := by decide +kernel
theorem dX7_order_109 : decode cX7_order 109 = .ok (.ifCond .ne 7, 3) := by decide +kernel
theorem dX7_order_112 : decode cX7_order 112 = .ok (.iload_n 3, 1) := by decide +kernel
theorem dX7_order_113 : decode cX7_order 113 = .ok (.goto 15, 3) := by decide +kernel
theorem dX7_order_116 : decode cX7_order 116 = .ok (.getstatic 164, 3) := by decide +kernel
theorem dX7_order_119 : decode cX7_order 119 = .ok (.iload 4, 2) := by decide +kernel
theorem dX7_order_121 : decode cX7_order 121 = .ok (.iconst 3, 1) := by decide +kernel
theorem dX7_order_122 : decode cX7_order 122 = .ok (.imul, 1) := by decide +kernel
theorem dX7_order_123 : decode cX7_order 123 = .ok (.iload_n 2, 1) := by decide +kernel
theorem dX7_order_124 : decode cX7_order 124 = .ok (.iadd, 1) := by decide +kernel
theorem dX7_order_125 : decode cX7_order 125 = .ok (.iconst 1, 1) := by decide +kernel
theorem dX7_order_126 : decode cX7_order 126 = .ok (.isub, 1) := by decide +kernel
theorem dX7_order_127 : decode cX7_order 127 = .ok (.iaload, 1) := by decide +kernel
theorem dX7_order_128 : decode cX7_order 128 = .ok (.ireturn, 1) := by decide +kernel
theorem oG_order : zok yX7_order 2 := by decide +kernel
theorem dX2_become_0 : decode cX2_become 0 = .ok (.aload_n 0, 1) := by decide +kernel
theorem dX2_become_1 : decode cX2_become 1 = .ok (.aload_n 1, 1) := by decide +kernel
theorem dX2_become_2 : decode cX2_become 2 = .ok (.getfield 31, 3) := by decide +kernel
theorem dX2_become_5 : decode cX2_become 5 = .ok (.putfield 31, 3) := by decide +kernel
theorem dX2_become_8 : decode cX2_become 8 = .ok (.aload_n 0, 1) := by decide +kernel
theorem dX2_become_9 : decode cX2_become 9 = .ok (.aload_n 1, 1) := by decide +kernel
theorem dX2_become_10 : decode cX2_become 10 = .ok (.getfield 44, 3) := by decide +kernel
theorem dX2_become_13 : decode cX2_become 13 = .ok (.putfield 44, 3) := by decide +kernel
theorem dX2_become_16 : decode cX2_become 16 = .ok (.aload_n 0, 1) := by decide +kernel
theorem dX2_become_17 : decode cX2_become 17 = .ok (.aload_n 1, 1) := by decide +kernel
theorem dX2_become_18 : decode cX2_become 18 = .ok (.getfield 17, 3) := by decide +kernel
theorem dX2_become_21 : decode cX2_become 21 = .ok (.putfield 17, 3) := by decide +kernel
theorem dX2_become_24 : decode cX2_become 24 = .ok (.aload_n 0, 1) := by decide +kernel
theorem dX2_become_25 : decode cX2_become 25 = .ok (.aload_n 1, 1) := by decide +kernel
theorem dX2_become_26 : decode cX2_become 26 = .ok (.getfield 38, 3) := by decide +kernel
theorem dX2_become_29 : decode cX2_become 29 = .ok (.putfield 38, 3) := by decide +kernel
theorem dX2_become_32 : decode cX2_become 32 = .ok (.aload_n 1, 1) := by decide +kernel
theorem dX2_become_33 : decode cX2_become 33 = .ok (.getfield 21, 3) := by decide +kernel
theorem dX2_become_36 : decode cX2_become 36 = .ok (.iconst 0, 1) := by decide +kernel
theorem dX2_become_37 : decode cX2_become 37 = .ok (.aload_n 0, 1) := by decide +kernel
theorem dX2_become_38 : decode cX2_become 38 = .ok (.getfield 21, 3) := by decide +kernel
theorem dX2_become_41 : decode cX2_become 41 = .ok (.iconst 0, 1) := by decide +kernel
theorem dX2_become_42 : decode cX2_become 42 = .ok (.iconst 3, 1) := by decide +kernel
theorem dX2_become_43 : decode cX2_become 43 = .ok (.invokestatic 47, 3) := by decide +kernel
theorem dX2_become_46 : decode cX2_become 46 = .ok (.aload_n 1, 1) := by decide +kernel
theorem dX2_become_47 : decode cX2_become 47 = .ok (.getfield 25, 3) := by decide +kernel
theorem dX2_become_50 : decode cX2_become 50 = .ok (.iconst 0, 1) := by decide +kernel
theorem dX2_become_51 : decode cX2_become 51 = .ok (.aload_n 0, 1) := by decide +kernel
theorem dX2_become_52 : decode cX2_become 52 = .ok (.getfield 25, 3) := by decide +kernel
theorem dX2_become_55 : decode cX2_become 55 = .ok (.iconst 0, 1) := by decide +kernel
theorem dX2_become_56 : decode cX2_become 56 = .ok (.bipush 36, 2) := by decide +kernel
theorem dX2_become_58 : decode cX2_become 58 = .ok (.invokestatic 47, 3) := by decide +kernel
theorem dX2_become_61 : decode cX2_become 61 = .ok (.iconst 0, 1) := by decide +kernel
theorem dX2_become_62 : decode cX2_become 62 = .ok (.istore_n 2, 1) := by decide +kernel
theorem dX2_become_63 : decode cX2_become 63 = .ok (.iload_n 2, 1) := by decide +kernel
theorem dX2_become_64 : decode cX2_become 64 = .ok (.aload_n 0, 1) := by decide +kernel
theorem dX2_become_65 : decode cX2_become 65 = .ok (.getfield 31, 3) := by decide +kernel
theorem dX2_become_68 : decode cX2_become 68 = .ok (.if_icmp .ge 24, 3) := by decide +kernel
theorem dX2_become_71 : decode cX2_become 71 = .ok (.aload_n 0, 1) := by decide +kernel
theorem dX2_become_72 : decode cX2_become 72 = .ok (.getfield 11, 3) := by decide +kernel
theorem dX2_become_75 : decode cX2_become 75 = .ok (.iload_n 2, 1) := by decide +kernel
theorem dX2_become_76 : decode cX2_become 76 = .ok (.aaload, 1) := by decide +kernel
theorem dX2_become_77 : decode cX2_become 77 = .ok (.aload_n 1, 1) := by decide +kernel
theorem dX2_become_78 : decode cX2_become 78 = .ok (.getfield 11, 3) := by decide +kernel
theorem dX2_become_81 : decode cX2_become 81 = .ok (.iload_n 2, 1) := by decide +kernel
theorem dX2_become_82 : decode cX2_become 82 = .ok (.aaload, 1) := by decide +kernel
theorem dX2_become_83 : decode cX2_become 83 = .ok (.invokevirtual 53, 3) := by decide +kernel
theorem dX2_become_86 : decode cX2_become 86 = .ok (.iinc 2 1, 3) := by decide +kernel
theorem dX2_become_89 : decode cX2_become 89 = .ok (.goto (-26), 3) := by decide +kernel
theorem dX2_become_92 : decode cX2_become 92 = .ok (.return_, 1) := by decide +kernel
theorem oP_become : zok yX2_become 1 := by decide +kernel
theorem dX3_become_0 : decode cX3_become 0 = .ok (.aload_n 0, 1) := by decide +kernel
theorem dX3_become_1 : decode cX3_become 1 = .ok (.aload_n 1, 1) := by decide +kernel
theorem dX3_become_2 : decode cX3_become 2 = .ok (.getfield 28, 3) := by decide +kernel
theorem dX3_become_5 : decode cX3_become 5 = .ok (.putfield 28, 3) := by decide +kernel
theorem dX3_become_8 : decode cX3_become 8 = .ok (.aload_n 0, 1) := by decide +kernel
theorem dX3_become_9 : decode cX3_become 9 = .ok (.aload_n 1, 1) := by decide +kernel
theorem dX3_become_10 : decode cX3_become 10 = .ok (.getfield 31, 3) := by decide +kernel
theorem dX3_become_13 : decode cX3_become 13 = .ok (.putfield 31, 3) := by decide +kernel
theorem dX3_become_16 : decode cX3_become 16 = .ok (.aload_n 0, 1) := by decide +kernel
theorem dX3_become_17 : decode cX3_become 17 = .ok (.aload_n 1, 1) := by decide +kernel
theorem dX3_become_18 : decode cX3_become 18 = .ok (.getfield 34, 3) := by decide +kernel
theorem dX3_become_21 : decode cX3_become 21 = .ok (.putfield 34, 3) := by decide +kernel
theorem dX3_become_24 : decode cX3_become 24 = .ok (.aload_n 0, 1) := by decide +kernel
theorem dX3_become_25 : decode cX3_become 25 = .ok (.aload_n 1, 1) := by decide +kernel
theorem dX3_become_26 : decode cX3_become 26 = .ok (.getfield 37, 3) := by decide +kernel
theorem dX3_become_29 : decode cX3_become 29 = .ok (.putfield 37, 3) := by decide +kernel
theorem dX3_become_32 : decode cX3_become 32 = .ok (.aload_n 1, 1) := by decide +kernel
theorem dX3_become_33 : decode cX3_become 33 = .ok (.getfield 9, 3) := by decide +kernel
theorem dX3_become_36 : decode cX3_become 36 = .ok (.iconst 0, 1) := by decide +kernel
theorem dX3_become_37 : decode cX3_become 37 = .ok (.aload_n 0, 1) := by decide +kernel
theorem dX3_become_38 : decode cX3_become 38 = .ok (.getfield 9, 3) := by decide +kernel
theorem dX3_become_41 : decode cX3_become 41 = .ok (.iconst 0, 1) := by decide +kernel
theorem dX3_become_42 : decode cX3_become 42 = .ok (.iconst 3, 1) := by decide +kernel
theorem dX3_become_43 : decode cX3_become 43 = .ok (.invokestatic 40, 3) := by decide +kernel
theorem dX3_become_46 : decode cX3_become 46 = .ok (.aload_n 1, 1) := by decide +kernel
theorem dX3_become_47 : decode cX3_become 47 = .ok (.getfield 15, 3) := by decide +kernel
theorem dX3_become_50 : decode cX3_become 50 = .ok (.iconst 0, 1) := by decide +kernel
theorem dX3_become_51 : decode cX3_become 51 = .ok (.aload_n 0, 1) := by decide +kernel
theorem dX3_become_52 : decode cX3_become 52 = .ok (.getfield 15, 3) := by decide +kernel
theorem dX3_become_55 : decode cX3_become 55 = .ok (.iconst 0, 1) := by decide +kernel
theorem dX3_become_56 : decode cX3_become 56 = .ok (.iconst 3, 1) := by decide +kernel
theorem dX3_become_57 : decode cX3_become 57 = .ok (.invokestatic 40, 3) := by decide +kernel
theorem dX3_become_60 : decode cX3_become 60 = .ok (.aload_n 1, 1) := by decide +kernel
theorem dX3_become_61 : decode cX3_become 61 = .ok (.getfield 18, 3) := by decide +kernel
theorem dX3_become_64 : decode cX3_become 64 = .ok (.iconst 0, 1) := by decide +kernel
theorem dX3_become_65 : decode cX3_become 65 = .ok (.aload_n 0, 1) := by decide +kernel
theorem dX3_become_66 : decode cX3_become 66 = .ok (.getfield 18, 3) := by decide +kernel
theorem dX3_become_69 : decode cX3_become 69 = .ok (.iconst 0, 1) := by decide +kernel
theorem dX3_become_70 : decode cX3_become 70 = .ok (.iconst 3, 1) := by decide +kernel
theorem dX3_become_71 : decode cX3_become 71 = .ok (.invokestatic 40, 3) := by decide +kernel
theorem dX3_become_74 : decode cX3_become 74 = .ok (.aload_n 1, 1) := by decide +kernel
theorem dX3_become_75 : decode cX3_become 75 = .ok (.getfield 21, 3) := by decide +kernel
theorem dX3_become_78 : decode cX3_become 78 = .ok (.iconst 0, 1) := by decide +kernel
theorem dX3_become_79 : decode cX3_become 79 = .ok (.aload_n 0, 1) := by decide +kernel
theorem dX3_become_80 : decode cX3_become 80 = .ok (.getfield 21, 3) := by decide +kernel
theorem dX3_become_83 : decode cX3_become 83 = .ok (.iconst 0, 1) := by decide +kernel
theorem dX3_become_84 : decode cX3_become 84 = .ok (.iconst 4, 1) := by decide +kernel
theorem dX3_become_85 : decode cX3_become 85 = .ok (.invokestatic 40, 3) := by decide +kernel
theorem dX3_become_88 : decode cX3_become 88 = .ok (.return_, 1) := by decide +kernel
theorem oN_become : zok yX3_become 1 := by decide +kernel
theorem dX7_likely_0 : decode cX7_likely 0 = .ok (.aload_n 0, 1) := by decide +kernel
theorem dX7_likely_1 : decode cX7_likely 1 = .ok (.getfield 12, 3) := by decide +kernel
theorem dX7_likely_4 : decode cX7_likely 4 = .ok (.iload_n 1, 1) := by decide +kernel
theorem dX7_likely_5 : decode cX7_likely 5 = .ok (.invokevirtual 81, 3) := by decide +kernel
theorem dX7_likely_8 : decode cX7_likely 8 = .ok (.ifCond .eq 12, 3) := by decide +kernel
theorem dX7_likely_11 : decode cX7_likely 11 = .ok (.iload_n 2, 1) := by decide +kernel
theorem dX7_likely_12 : decode cX7_likely 12 = .ok (.ifCond .lt 8, 3) := by decide +kernel
theorem dX7_likely_15 : decode cX7_likely 15 = .ok (.iload_n 2, 1) := by decide +kernel
theorem dX7_likely_16 : decode cX7_likely 16 = .ok (.iconst 1, 1) := by decide +kernel
theorem dX7_likely_17 : decode cX7_likely 17 = .ok (.if_icmp .le 5, 3) := by decide +kernel
theorem dX7_likely_20 : decode cX7_likely 20 = .ok (.iconst (-1), 1) := by decide +kernel
theorem dX7_likely_21 : decode cX7_likely 21 = .ok (.ireturn, 1) := by decide +kernel
theorem dX7_likely_22 : decode cX7_likely 22 = .ok (.aload_n 0, 1) := by decide +kernel
theorem dX7_likely_23 : decode cX7_likely 23 = .ok (.getfield 21, 3) := by decide +kernel
theorem dX7_likely_26 : decode cX7_likely 26 = .ok (.aload_n 0, 1) := by decide +kernel
theorem dX7_likely_27 : decode cX7_likely 27 = .ok (.getfield 12, 3) := by decide +kernel
theorem dX7_likely_30 : decode cX7_likely 30 = .ok (.invokevirtual 160, 3) := by decide +kernel
theorem dX7_likely_33 : decode cX7_likely 33 = .ok (.aload_n 0, 1) := by decide +kernel
theorem dX7_likely_34 : decode cX7_likely 34 = .ok (.getfield 21, 3) := by decide +kernel
theorem dX7_likely_37 : decode cX7_likely 37 = .ok (.getfield 88, 3) := by decide +kernel
theorem dX7_likely_40 : decode cX7_likely 40 = .ok (.iload_n 1, 1) := by decide +kernel
theorem dX7_likely_41 : decode cX7_likely 41 = .ok (.aaload, 1) := by decide +kernel
theorem dX7_likely_42 : decode cX7_likely 42 = .ok (.astore_n 3, 1) := by decide +kernel
theorem dX7_likely_43 : decode cX7_likely 43 = .ok (.iconst (-1), 1) := by decide +kernel
theorem dX7_likely_44 : decode cX7_likely 44 = .ok (.istore 4, 2) := by decide +kernel
theorem dX7_likely_46 : decode cX7_likely 46 = .ok (.iconst 0, 1) := by decide +kernel
theorem dX7_likely_47 : decode cX7_likely 47 = .ok (.istore 5, 2) := by decide +kernel
theorem dX7_likely_49 : decode cX7_likely 49 = .ok (.iconst 0, 1) := by decide +kernel
theorem dX7_likely_50 : decode cX7_likely 50 = .ok (.istore 6, 2) := by decide +kernel
theorem dX7_likely_52 : decode cX7_likely 52 = .ok (.iload 6, 2) := by decide +kernel
theorem dX7_likely_54 : decode cX7_likely 54 = .ok (.bipush 99, 2) := by decide +kernel
theorem dX7_likely_56 : decode cX7_likely 56 = .ok (.if_icmp .gt 46, 3) := by decide +kernel
theorem dX7_likely_59 : decode cX7_likely 59 = .ok (.aload_n 3, 1) := by decide +kernel
theorem dX7_likely_60 : decode cX7_likely 60 = .ok (.getfield 92, 3) := by decide +kernel
theorem dX7_likely_63 : decode cX7_likely 63 = .ok (.aload_n 3, 1) := by decide +kernel
theorem dX7_likely_64 : decode cX7_likely 64 = .ok (.getfield 100, 3) := by decide +kernel
theorem dX7_likely_67 : decode cX7_likely 67 = .ok (.iload 6, 2) := by decide +kernel
theorem dX7_likely_69 : decode cX7_likely 69 = .ok (.iastore, 1) := by decide +kernel
theorem dX7_likely_70 : decode cX7_likely 70 = .ok (.aload_n 0, 1) := by decide +kernel
theorem dX7_likely_71 : decode cX7_likely 71 = .ok (.aload_n 0, 1) := by decide +kernel
theorem dX7_likely_72 : decode cX7_likely 72 = .ok (.getfield 21, 3) := by decide +kernel
theorem dX7_likely_75 : decode cX7_likely 75 = .ok (.iload_n 1, 1) := by decide +kernel
theorem dX7_likely_76 : decode cX7_likely 76 = .ok (.invokevirtual 151, 3) := by decide +kernel
theorem dX7_likely_79 : decode cX7_likely 79 = .ok (.istore 7, 2) := by decide +kernel
theorem dX7_likely_81 : decode cX7_likely 81 = .ok (.iload 7, 2) := by decide +kernel
theorem dX7_likely_83 : decode cX7_likely 83 = .ok (.iload 4, 2) := by decide +kernel
theorem dX7_likely_85 : decode cX7_likely 85 = .ok (.if_icmp .le 11, 3) := by decide +kernel
theorem dX7_likely_88 : decode cX7_likely 88 = .ok (.iload 7, 2) := by decide +kernel
theorem dX7_likely_90 : decode cX7_likely 90 = .ok (.istore 4, 2) := by decide +kernel
theorem dX7_likely_92 : decode cX7_likely 92 = .ok (.iload 6, 2) := by decide +kernel
theorem dX7_likely_94 : decode cX7_likely 94 = .ok (.istore 5, 2) := by decide +kernel
theorem dX7_likely_96 : decode cX7_likely 96 = .ok (.iinc 6 9, 3) := by decide +kernel
theorem dX7_likely_99 : decode cX7_likely 99 = .ok (.goto (-47), 3) := by decide +kernel
theorem dX7_likely_102 : decode cX7_likely 102 = .ok (.iload_n 2, 1) := by decide +kernel
theorem dX7_likely_103 : decode cX7_likely 103 = .ok (.ifCond .ne 8, 3) := by decide +kernel
theorem dX7_likely_106 : decode cX7_likely 106 = .ok (.iload 5, 2) := by decide +kernel
theorem dX7_likely_108 : decode cX7_likely 108 = .ok (.goto 5, 3) := by decide +kernel
theorem dX7_likely_111 : decode cX7_likely 111 = .ok (.iload 4, 2) := by decide +kernel
theorem dX7_likely_113 : decode cX7_likely 113 = .ok (.ireturn, 1) := by decide +kernel
theorem oG_likely : zok yX7_likely 2 := by decide +kernel
theorem dX7_best_0 : decode cX7_best 0 = .ok (.aload_n 0, 1) := by decide +kernel
theorem dX7_best_1 : decode cX7_best 1 = .ok (.getfield 12, 3) := by decide +kernel
theorem dX7_best_4 : decode cX7_best 4 = .ok (.iload_n 1, 1) := by decide +kernel
theorem dX7_best_5 : decode cX7_best 5 = .ok (.invokevirtual 81, 3) := by decide +kernel
theorem dX7_best_8 : decode cX7_best 8 = .ok (.ifCond .eq 12, 3) := by decide +kernel
theorem dX7_best_11 : decode cX7_best 11 = .ok (.iload_n 2, 1) := by decide +kernel
theorem dX7_best_12 : decode cX7_best 12 = .ok (.ifCond .lt 8, 3) := by decide +kernel
theorem dX7_best_15 : decode cX7_best 15 = .ok (.iload_n 2, 1) := by decide +kernel
theorem dX7_best_16 : decode cX7_best 16 = .ok (.iconst 1, 1) := by decide +kernel
theorem dX7_best_17 : decode cX7_best 17 = .ok (.if_icmp .le 5, 3) := by decide +kernel
theorem dX7_best_20 : decode cX7_best 20 = .ok (.iconst (-1), 1) := by decide +kernel
theorem dX7_best_21 : decode cX7_best 21 = .ok (.ireturn, 1) := by decide +kernel
theorem dX7_best_22 : decode cX7_best 22 = .ok (.aload_n 0, 1) := by decide +kernel
theorem dX7_best_23 : decode cX7_best 23 = .ok (.getfield 21, 3) := by decide +kernel
theorem dX7_best_26 : decode cX7_best 26 = .ok (.aload_n 0, 1) := by decide +kernel
theorem dX7_best_27 : decode cX7_best 27 = .ok (.getfield 12, 3) := by decide +kernel
theorem dX7_best_30 : decode cX7_best 30 = .ok (.invokevirtual 160, 3) := by decide +kernel
theorem dX7_best_33 : decode cX7_best 33 = .ok (.iconst (-1), 1) := by decide +kernel
theorem dX7_best_34 : decode cX7_best 34 = .ok (.istore_n 3, 1) := by decide +kernel
theorem dX7_best_35 : decode cX7_best 35 = .ok (.iconst 0, 1) := by decide +kernel
theorem dX7_best_36 : decode cX7_best 36 = .ok (.istore 4, 2) := by decide +kernel
theorem dX7_best_38 : decode cX7_best 38 = .ok (.iconst 0, 1) := by decide +kernel
theorem dX7_best_39 : decode cX7_best 39 = .ok (.istore 5, 2) := by decide +kernel
theorem dX7_best_41 : decode cX7_best 41 = .ok (.iload 5, 2) := by decide +kernel
theorem dX7_best_43 : decode cX7_best 43 = .ok (.iconst 3, 1) := by decide +kernel
theorem dX7_best_44 : decode cX7_best 44 = .ok (.if_icmp .ge 47, 3) := by decide +kernel
theorem dX7_best_47 : decode cX7_best 47 = .ok (.aload_n 0, 1) := by decide +kernel
theorem dX7_best_48 : decode cX7_best 48 = .ok (.getfield 21, 3) := by decide +kernel
theorem dX7_best_51 : decode cX7_best 51 = .ok (.getfield 88, 3) := by decide +kernel
theorem dX7_best_54 : decode cX7_best 54 = .ok (.iload_n 1, 1) := by decide +kernel
theorem dX7_best_55 : decode cX7_best 55 = .ok (.aaload, 1) := by decide +kernel
theorem dX7_best_56 : decode cX7_best 56 = .ok (.iload 5, 2) := by decide +kernel
theorem dX7_best_58 : decode cX7_best 58 = .ok (.putfield 100, 3) := by decide +kernel
theorem dX7_best_61 : decode cX7_best 61 = .ok (.aload_n 0, 1) := by decide +kernel
theorem dX7_best_62 : decode cX7_best 62 = .ok (.aload_n 0, 1) := by decide +kernel
theorem dX7_best_63 : decode cX7_best 63 = .ok (.getfield 21, 3) := by decide +kernel
theorem dX7_best_66 : decode cX7_best 66 = .ok (.iload_n 1, 1) := by decide +kernel
theorem dX7_best_67 : decode cX7_best 67 = .ok (.invokevirtual 151, 3) := by decide +kernel
theorem dX7_best_70 : decode cX7_best 70 = .ok (.istore 6, 2) := by decide +kernel
theorem dX7_best_72 : decode cX7_best 72 = .ok (.iload 6, 2) := by decide +kernel
theorem dX7_best_74 : decode cX7_best 74 = .ok (.iload_n 3, 1) := by decide +kernel
theorem dX7_best_75 : decode cX7_best 75 = .ok (.if_icmp .le 10, 3) := by decide +kernel
theorem dX7_best_78 : decode cX7_best 78 = .ok (.iload 6, 2) := by decide +kernel
theorem dX7_best_80 : decode cX7_best 80 = .ok (.istore_n 3, 1) := by decide +kernel
theorem dX7_best_81 : decode cX7_best 81 = .ok (.iload 5, 2) := by decide +kernel
theorem dX7_best_83 : decode cX7_best 83 = .ok (.istore 4, 2) := by decide +kernel
theorem dX7_best_85 : decode cX7_best 85 = .ok (.iinc 5 1, 3) := by decide +kernel
theorem dX7_best_88 : decode cX7_best 88 = .ok (.goto (-47), 3) := by decide +kernel
theorem dX7_best_91 : decode cX7_best 91 = .ok (.iload_n 2, 1) := by decide +kernel
theorem dX7_best_92 : decode cX7_best 92 = .ok (.ifCond .ne 8, 3) := by decide +kernel
theorem dX7_best_95 : decode cX7_best 95 = .ok (.iload 4, 2) := by decide +kernel
theorem dX7_best_97 : decode cX7_best 97 = .ok (.goto 4, 3) := by decide +kernel
theorem dX7_best_100 : decode cX7_best 100 = .ok (.iload_n 3, 1) := by decide +kernel
theorem dX7_best_101 : decode cX7_best 101 = .ok (.ireturn, 1) := by decide +kernel
theorem oG_best : zok yX7_best 2 := by decide +kernel
theorem dX7_first_0 : decode cX7_first 0 = .ok (.aload_n 0, 1) := by decide +kernel
theorem dX7_first_1 : decode cX7_first 1 = .ok (.getfield 12, 3) := by decide +kernel
theorem dX7_first_4 : decode cX7_first 4 = .ok (.iload_n 1, 1) := by decide +kernel
theorem dX7_first_5 : decode cX7_first 5 = .ok (.invokevirtual 81, 3) := by decide +kernel
theorem dX7_first_8 : decode cX7_first 8 = .ok (.ifCond .eq 21, 3) := by decide +kernel
theorem dX7_first_11 : decode cX7_first 11 = .ok (.aload_n 0, 1) := by decide +kernel
theorem dX7_first_12 : decode cX7_first 12 = .ok (.getfield 12, 3) := by decide +kernel
theorem dX7_first_15 : decode cX7_first 15 = .ok (.iload_n 2, 1) := by decide +kernel
theorem dX7_first_16 : decode cX7_first 16 = .ok (.invokevirtual 81, 3) := by decide +kernel
theorem dX7_first_19 : decode cX7_first 19 = .ok (.ifCond .eq 10, 3) := by decide +kernel
theorem dX7_first_22 : decode cX7_first 22 = .ok (.iload_n 3, 1) := by decide +kernel
theorem dX7_first_23 : decode cX7_first 23 = .ok (.invokestatic 85, 3) := by decide +kernel
theorem dX7_first_26 : decode cX7_first 26 = .ok (.ifCond .ne 5, 3) := by decide +kernel
theorem dX7_first_29 : decode cX7_first 29 = .ok (.iconst (-1), 1) := by decide +kernel
theorem dX7_first_30 : decode cX7_first 30 = .ok (.ireturn, 1) := by decide +kernel
theorem dX7_first_31 : decode cX7_first 31 = .ok (.iload_n 1, 1) := by decide +kernel
theorem dX7_first_32 : decode cX7_first 32 = .ok (.iload_n 2, 1) := by decide +kernel
theorem dX7_first_33 : decode cX7_first 33 = .ok (.if_icmp .ne 6, 3) := by decide +kernel
theorem dX7_first_36 : decode cX7_first 36 = .ok (.bipush (-2), 2) := by decide +kernel
theorem dX7_first_38 : decode cX7_first 38 = .ok (.ireturn, 1) := by decide +kernel
theorem dX7_first_39 : decode cX7_first 39 = .ok (.aload_n 0, 1) := by decide +kernel
theorem dX7_first_40 : decode cX7_first 40 = .ok (.aload_n 0, 1) := by decide +kernel
theorem dX7_first_41 : decode cX7_first 41 = .ok (.getfield 12, 3) := by decide +kernel
theorem dX7_first_44 : decode cX7_first 44 = .ok (.iload_n 2, 1) := by decide +kernel
theorem dX7_first_45 : decode cX7_first 45 = .ok (.invokevirtual 151, 3) := by decide +kernel
theorem dX7_first_48 : decode cX7_first 48 = .ok (.pop, 1) := by decide +kernel
theorem dX7_first_49 : decode cX7_first 49 = .ok (.aload_n 0, 1) := by decide +kernel
theorem dX7_first_50 : decode cX7_first 50 = .ok (.getfield 45, 3) := by decide +kernel
theorem dX7_first_53 : decode cX7_first 53 = .ok (.getfield 154, 3) := by decide +kernel
theorem dX7_first_56 : decode cX7_first 56 = .ok (.iconst 0, 1) := by decide +kernel
theorem dX7_first_57 : decode cX7_first 57 = .ok (.aload_n 0, 1) := by decide +kernel
theorem dX7_first_58 : decode cX7_first 58 = .ok (.getfield 49, 3) := by decide +kernel
theorem dX7_first_61 : decode cX7_first 61 = .ok (.iconst 0, 1) := by decide +kernel
theorem dX7_first_62 : decode cX7_first 62 = .ok (.bipush 6, 2) := by decide +kernel
theorem dX7_first_64 : decode cX7_first 64 = .ok (.invokestatic 167, 3) := by decide +kernel
theorem dX7_first_67 : decode cX7_first 67 = .ok (.aload_n 0, 1) := by decide +kernel
theorem dX7_first_68 : decode cX7_first 68 = .ok (.getfield 45, 3) := by decide +kernel
theorem dX7_first_71 : decode cX7_first 71 = .ok (.invokevirtual 173, 3) := by decide +kernel
theorem dX7_first_74 : decode cX7_first 74 = .ok (.aload_n 0, 1) := by decide +kernel
theorem dX7_first_75 : decode cX7_first 75 = .ok (.getfield 45, 3) := by decide +kernel
theorem dX7_first_78 : decode cX7_first 78 = .ok (.getfield 157, 3) := by decide +kernel
theorem dX7_first_81 : decode cX7_first 81 = .ok (.iload_n 3, 1) := by decide +kernel
theorem dX7_first_82 : decode cX7_first 82 = .ok (.dup2, 1) := by decide +kernel
theorem dX7_first_83 : decode cX7_first 83 = .ok (.iaload, 1) := by decide +kernel
theorem dX7_first_84 : decode cX7_first 84 = .ok (.iconst 1, 1) := by decide +kernel
theorem dX7_first_85 : decode cX7_first 85 = .ok (.iadd, 1) := by decide +kernel
theorem dX7_first_86 : decode cX7_first 86 = .ok (.iastore, 1) := by decide +kernel
theorem dX7_first_87 : decode cX7_first 87 = .ok (.iconst 0, 1) := by decide +kernel
theorem dX7_first_88 : decode cX7_first 88 = .ok (.istore 4, 2) := by decide +kernel
theorem dX7_first_90 : decode cX7_first 90 = .ok (.iconst 0, 1) := by decide +kernel
theorem dX7_first_91 : decode cX7_first 91 = .ok (.istore 5, 2) := by decide +kernel
theorem dX7_first_93 : decode cX7_first 93 = .ok (.iload 5, 2) := by decide +kernel
theorem dX7_first_95 : decode cX7_first 95 = .ok (.aload_n 0, 1) := by decide +kernel
theorem dX7_first_96 : decode cX7_first 96 = .ok (.getfield 12, 3) := by decide +kernel
theorem dX7_first_99 : decode cX7_first 99 = .ok (.getfield 73, 3) := by decide +kernel
theorem dX7_first_102 : decode cX7_first 102 = .ok (.if_icmp .ge 43, 3) := by decide +kernel
theorem dX7_first_105 : decode cX7_first 105 = .ok (.iload 5, 2) := by decide +kernel
theorem dX7_first_107 : decode cX7_first 107 = .ok (.iload_n 2, 1) := by decide +kernel
theorem dX7_first_108 : decode cX7_first 108 = .ok (.if_icmp .eq 31, 3) := by decide +kernel
theorem dX7_first_111 : decode cX7_first 111 = .ok (.iload 5, 2) := by decide +kernel
theorem dX7_first_113 : decode cX7_first 113 = .ok (.iload_n 1, 1) := by decide +kernel
theorem dX7_first_114 : decode cX7_first 114 = .ok (.if_icmp .eq 25, 3) := by decide +kernel
theorem dX7_first_117 : decode cX7_first 117 = .ok (.aload_n 0, 1) := by decide +kernel
theorem dX7_first_118 : decode cX7_first 118 = .ok (.getfield 45, 3) := by decide +kernel
theorem dX7_first_121 : decode cX7_first 121 = .ok (.iload 5, 2) := by decide +kernel
theorem dX7_first_123 : decode cX7_first 123 = .ok (.invokevirtual 176, 3) := by decide +kernel
theorem dX7_first_126 : decode cX7_first 126 = .ok (.aload_n 0, 1) := by decide +kernel
theorem dX7_first_127 : decode cX7_first 127 = .ok (.getfield 49, 3) := by decide +kernel
theorem dX7_first_130 : decode cX7_first 130 = .ok (.iload 5, 2) := by decide +kernel
theorem dX7_first_132 : decode cX7_first 132 = .ok (.iaload, 1) := by decide +kernel
theorem dX7_first_133 : decode cX7_first 133 = .ok (.if_icmp .eq 6, 3) := by decide +kernel
theorem dX7_first_136 : decode cX7_first 136 = .ok (.iinc 4 1, 3) := by decide +kernel
theorem dX7_first_139 : decode cX7_first 139 = .ok (.iinc 5 1, 3) := by decide +kernel
theorem dX7_first_142 : decode cX7_first 142 = .ok (.goto (-49), 3) := by decide +kernel
theorem dX7_first_145 : decode cX7_first 145 = .ok (.iload 4, 2) := by decide +kernel
theorem dX7_first_147 : decode cX7_first 147 = .ok (.ireturn, 1) := by decide +kernel
theorem oG_first : zok yX7_first 3 := by decide +kernel
theorem dX7_line_0 : decode cX7_line 0 = .ok (.aload_n 0, 1) := by decide +kernel
theorem dX7_line_1 : decode cX7_line 1 = .ok (.getfield 12, 3) := by decide +kernel
theorem dX7_line_4 : decode cX7_line 4 = .ok (.iload_n 1, 1) := by decide +kernel
theorem dX7_line_5 : decode cX7_line 5 = .ok (.invokevirtual 81, 3) := by decide +kernel
theorem dX7_line_8 : decode cX7_line 8 = .ok (.ifCond .eq 13, 3) := by decide +kernel
theorem dX7_line_11 : decode cX7_line 11 = .ok (.iload_n 2, 1) := by decide +kernel
theorem dX7_line_12 : decode cX7_line 12 = .ok (.iconst (-1), 1) := by decide +kernel
theorem dX7_line_13 : decode cX7_line 13 = .ok (.if_icmp .lt 8, 3) := by decide +kernel
theorem dX7_line_16 : decode cX7_line 16 = .ok (.iload_n 2, 1) := by decide +kernel
theorem dX7_line_17 : decode cX7_line 17 = .ok (.iconst 4, 1) := by decide +kernel
theorem dX7_line_18 : decode cX7_line 18 = .ok (.if_icmp .lt 5, 3) := by decide +kernel
theorem dX7_line_21 : decode cX7_line 21 = .ok (.iconst (-1), 1) := by decide +kernel
theorem dX7_line_22 : decode cX7_line 22 = .ok (.ireturn, 1) := by decide +kernel
theorem dX7_line_23 : decode cX7_line 23 = .ok (.aload_n 0, 1) := by decide +kernel
theorem dX7_line_24 : decode cX7_line 24 = .ok (.getfield 12, 3) := by decide +kernel
theorem dX7_line_27 : decode cX7_line 27 = .ok (.getfield 73, 3) := by decide +kernel
theorem dX7_line_30 : decode cX7_line 30 = .ok (.iconst 5, 1) := by decide +kernel
theorem dX7_line_31 : decode cX7_line 31 = .ok (.if_icmp .le 6, 3) := by decide +kernel
theorem dX7_line_34 : decode cX7_line 34 = .ok (.bipush (-9), 2) := by decide +kernel
theorem dX7_line_36 : decode cX7_line 36 = .ok (.ireturn, 1) := by decide +kernel
theorem dX7_line_37 : decode cX7_line 37 = .ok (.iload_n 2, 1) := by decide +kernel
theorem dX7_line_38 : decode cX7_line 38 = .ok (.aload_n 0, 1) := by decide +kernel
theorem dX7_line_39 : decode cX7_line 39 = .ok (.getfield 12, 3) := by decide +kernel
theorem dX7_line_42 : decode cX7_line 42 = .ok (.getfield 73, 3) := by decide +kernel
theorem dX7_line_45 : decode cX7_line 45 = .ok (.iconst 1, 1) := by decide +kernel
theorem dX7_line_46 : decode cX7_line 46 = .ok (.isub, 1) := by decide +kernel
theorem dX7_line_47 : decode cX7_line 47 = .ok (.if_icmp .lt 6, 3) := by decide +kernel
theorem dX7_line_50 : decode cX7_line 50 = .ok (.bipush (-5), 2) := by decide +kernel
theorem dX7_line_52 : decode cX7_line 52 = .ok (.ireturn, 1) := by decide +kernel
theorem dX7_line_53 : decode cX7_line 53 = .ok (.aload_n 0, 1) := by decide +kernel
theorem dX7_line_54 : decode cX7_line 54 = .ok (.iload_n 1, 1) := by decide +kernel
theorem dX7_line_55 : decode cX7_line 55 = .ok (.invokevirtual 179, 3) := by decide +kernel
theorem dX7_line_58 : decode cX7_line 58 = .ok (.istore_n 3, 1) := by decide +kernel
theorem dX7_line_59 : decode cX7_line 59 = .ok (.iload_n 2, 1) := by decide +kernel
theorem dX7_line_60 : decode cX7_line 60 = .ok (.ifCond .ge 7, 3) := by decide +kernel
theorem dX7_line_63 : decode cX7_line 63 = .ok (.iload_n 3, 1) := by decide +kernel
theorem dX7_line_64 : decode cX7_line 64 = .ok (.goto 9, 3) := by decide +kernel
theorem dX7_line_67 : decode cX7_line 67 = .ok (.aload_n 0, 1) := by decide +kernel
theorem dX7_line_68 : decode cX7_line 68 = .ok (.getfield 56, 3) := by decide +kernel
theorem dX7_line_71 : decode cX7_line 71 = .ok (.iload_n 2, 1) := by decide +kernel
theorem dX7_line_72 : decode cX7_line 72 = .ok (.iaload, 1) := by decide +kernel
theorem dX7_line_73 : decode cX7_line 73 = .ok (.ireturn, 1) := by decide +kernel
theorem oG_line : zok yX7_line 2 := by decide +kernel
theorem dX7_seekLine_0 : decode cX7_seekLine 0 = .ok (.iconst 0, 1) := by decide +kernel
theorem dX7_seekLine_1 : decode cX7_seekLine 1 = .ok (.istore_n 2, 1) := by decide +kernel
theorem dX7_seekLine_2 : decode cX7_seekLine 2 = .ok (.iconst 0, 1) := by decide +kernel
theorem dX7_seekLine_3 : decode cX7_seekLine 3 = .ok (.istore_n 3, 1) := by decide +kernel
theorem dX7_seekLine_4 : decode cX7_seekLine 4 = .ok (.iload_n 3, 1) := by decide +kernel
theorem dX7_seekLine_5 : decode cX7_seekLine 5 = .ok (.aload_n 0, 1) := by decide +kernel
theorem dX7_seekLine_6 : decode cX7_seekLine 6 = .ok (.getfield 12, 3) := by decide +kernel
theorem dX7_seekLine_9 : decode cX7_seekLine 9 = .ok (.getfield 73, 3) := by decide +kernel
theorem dX7_seekLine_12 : decode cX7_seekLine 12 = .ok (.if_icmp .ge 29, 3) := by decide +kernel
theorem dX7_seekLine_15 : decode cX7_seekLine 15 = .ok (.iload_n 2, 1) := by decide +kernel
theorem dX7_seekLine_16 : decode cX7_seekLine 16 = .ok (.iconst 5, 1) := by decide +kernel
theorem dX7_seekLine_17 : decode cX7_seekLine 17 = .ok (.if_icmp .ge 24, 3) := by decide +kernel
theorem dX7_seekLine_20 : decode cX7_seekLine 20 = .ok (.iload_n 3, 1) := by decide +kernel
theorem dX7_seekLine_21 : decode cX7_seekLine 21 = .ok (.iload_n 1, 1) := by decide +kernel
theorem dX7_seekLine_22 : decode cX7_seekLine 22 = .ok (.if_icmp .eq 13, 3) := by decide +kernel
theorem dX7_seekLine_25 : decode cX7_seekLine 25 = .ok (.aload_n 0, 1) := by decide +kernel
theorem dX7_seekLine_26 : decode cX7_seekLine 26 = .ok (.getfield 53, 3) := by decide +kernel
theorem dX7_seekLine_29 : decode cX7_seekLine 29 = .ok (.iload_n 2, 1) := by decide +kernel
theorem dX7_seekLine_30 : decode cX7_seekLine 30 = .ok (.iload_n 3, 1) := by decide +kernel
theorem dX7_seekLine_31 : decode cX7_seekLine 31 = .ok (.iastore, 1) := by decide +kernel
theorem dX7_seekLine_32 : decode cX7_seekLine 32 = .ok (.iinc 2 1, 3) := by decide +kernel
theorem dX7_seekLine_35 : decode cX7_seekLine 35 = .ok (.iinc 3 1, 3) := by decide +kernel
theorem dX7_seekLine_38 : decode cX7_seekLine 38 = .ok (.goto (-34), 3) := by decide +kernel
theorem dX7_seekLine_41 : decode cX7_seekLine 41 = .ok (.aload_n 0, 1) := by decide +kernel
theorem dX7_seekLine_42 : decode cX7_seekLine 42 = .ok (.getfield 45, 3) := by decide +kernel
theorem dX7_seekLine_45 : decode cX7_seekLine 45 = .ok (.aload_n 0, 1) := by decide +kernel
theorem dX7_seekLine_46 : decode cX7_seekLine 46 = .ok (.getfield 12, 3) := by decide +kernel
theorem dX7_seekLine_49 : decode cX7_seekLine 49 = .ok (.aload_n 0, 1) := by decide +kernel
theorem dX7_seekLine_50 : decode cX7_seekLine 50 = .ok (.invokevirtual 136, 3) := by decide +kernel
theorem dX7_seekLine_53 : decode cX7_seekLine 53 = .ok (.iload_n 1, 1) := by decide +kernel
theorem dX7_seekLine_54 : decode cX7_seekLine 54 = .ok (.invokevirtual 272, 3) := by decide +kernel
theorem dX7_seekLine_57 : decode cX7_seekLine 57 = .ok (.bipush 6, 2) := by decide +kernel
theorem dX7_seekLine_59 : decode cX7_seekLine 59 = .ok (.istore_n 3, 1) := by decide +kernel
theorem dX7_seekLine_60 : decode cX7_seekLine 60 = .ok (.iconst 1, 1) := by decide +kernel
theorem dX7_seekLine_61 : decode cX7_seekLine 61 = .ok (.istore 4, 2) := by decide +kernel
theorem dX7_seekLine_63 : decode cX7_seekLine 63 = .ok (.iconst 0, 1) := by decide +kernel
theorem dX7_seekLine_64 : decode cX7_seekLine 64 = .ok (.istore 5, 2) := by decide +kernel
theorem dX7_seekLine_66 : decode cX7_seekLine 66 = .ok (.iload 5, 2) := by decide +kernel
theorem dX7_seekLine_68 : decode cX7_seekLine 68 = .ok (.bipush 24, 2) := by decide +kernel
theorem dX7_seekLine_70 : decode cX7_seekLine 70 = .ok (.if_icmp .ge 94, 3) := by decide +kernel
theorem dX7_seekLine_73 : decode cX7_seekLine 73 = .ok (.iload 4, 2) := by decide +kernel
theorem dX7_seekLine_75 : decode cX7_seekLine 75 = .ok (.ifCond .eq 89, 3) := by decide +kernel
theorem dX7_seekLine_78 : decode cX7_seekLine 78 = .ok (.aload_n 0, 1) := by decide +kernel
theorem dX7_seekLine_79 : decode cX7_seekLine 79 = .ok (.getfield 45, 3) := by decide +kernel
theorem dX7_seekLine_82 : decode cX7_seekLine 82 = .ok (.invokevirtual 173, 3) := by decide +kernel
theorem dX7_seekLine_85 : decode cX7_seekLine 85 = .ok (.iconst 0, 1) := by decide +kernel
theorem dX7_seekLine_86 : decode cX7_seekLine 86 = .ok (.istore 6, 2) := by decide +kernel
theorem dX7_seekLine_88 : decode cX7_seekLine 88 = .ok (.iload 6, 2) := by decide +kernel
theorem dX7_seekLine_90 : decode cX7_seekLine 90 = .ok (.iload_n 2, 1) := by decide +kernel
theorem dX7_seekLine_91 : decode cX7_seekLine 91 = .ok (.if_icmp .ge 24, 3) := by decide +kernel
theorem dX7_seekLine_94 : decode cX7_seekLine 94 = .ok (.aload_n 0, 1) := by decide +kernel
theorem dX7_seekLine_95 : decode cX7_seekLine 95 = .ok (.getfield 45, 3) := by decide +kernel
theorem dX7_seekLine_98 : decode cX7_seekLine 98 = .ok (.aload_n 0, 1) := by decide +kernel
theorem dX7_seekLine_99 : decode cX7_seekLine 99 = .ok (.getfield 53, 3) := by decide +kernel
theorem dX7_seekLine_102 : decode cX7_seekLine 102 = .ok (.iload 6, 2) := by decide +kernel
theorem dX7_seekLine_104 : decode cX7_seekLine 104 = .ok (.iaload, 1) := by decide +kernel
theorem dX7_seekLine_105 : decode cX7_seekLine 105 = .ok (.invokevirtual 176, 3) := by decide +kernel
theorem dX7_seekLine_108 : decode cX7_seekLine 108 = .ok (.pop, 1) := by decide +kernel
theorem dX7_seekLine_109 : decode cX7_seekLine 109 = .ok (.iinc 6 1, 3) := by decide +kernel
theorem dX7_seekLine_112 : decode cX7_seekLine 112 = .ok (.goto (-24), 3) := by decide +kernel
theorem dX7_seekLine_115 : decode cX7_seekLine 115 = .ok (.aload_n 0, 1) := by decide +kernel
theorem dX7_seekLine_116 : decode cX7_seekLine 116 = .ok (.getfield 45, 3) := by decide +kernel
theorem dX7_seekLine_119 : decode cX7_seekLine 119 = .ok (.getfield 276, 3) := by decide +kernel
theorem dX7_seekLine_122 : decode cX7_seekLine 122 = .ok (.iload_n 3, 1) := by decide +kernel
theorem dX7_seekLine_123 : decode cX7_seekLine 123 = .ok (.if_icmp .ge 25, 3) := by decide +kernel
theorem dX7_seekLine_126 : decode cX7_seekLine 126 = .ok (.aload_n 0, 1) := by decide +kernel
theorem dX7_seekLine_127 : decode cX7_seekLine 127 = .ok (.getfield 45, 3) := by decide +kernel
theorem dX7_seekLine_130 : decode cX7_seekLine 130 = .ok (.getfield 276, 3) := by decide +kernel
theorem dX7_seekLine_133 : decode cX7_seekLine 133 = .ok (.istore_n 3, 1) := by decide +kernel
theorem dX7_seekLine_134 : decode cX7_seekLine 134 = .ok (.aload_n 0, 1) := by decide +kernel
theorem dX7_seekLine_135 : decode cX7_seekLine 135 = .ok (.getfield 53, 3) := by decide +kernel
theorem dX7_seekLine_138 : decode cX7_seekLine 138 = .ok (.iconst 0, 1) := by decide +kernel
theorem dX7_seekLine_139 : decode cX7_seekLine 139 = .ok (.aload_n 0, 1) := by decide +kernel
theorem dX7_seekLine_140 : decode cX7_seekLine 140 = .ok (.getfield 56, 3) := by decide +kernel
theorem dX7_seekLine_143 : decode cX7_seekLine 143 = .ok (.iconst 0, 1) := by decide +kernel
theorem dX7_seekLine_144 : decode cX7_seekLine 144 = .ok (.iload_n 2, 1) := by decide +kernel
theorem dX7_seekLine_145 : decode cX7_seekLine 145 = .ok (.invokestatic 167, 3) := by decide +kernel
theorem dX7_seekLine_148 : decode cX7_seekLine 148 = .ok (.aload_n 0, 1) := by decide +kernel
theorem dX7_seekLine_149 : decode cX7_seekLine 149 = .ok (.getfield 53, 3) := by decide +kernel
theorem dX7_seekLine_152 : decode cX7_seekLine 152 = .ok (.iload_n 2, 1) := by decide +kernel
theorem dX7_seekLine_153 : decode cX7_seekLine 153 = .ok (.invokestatic 279, 3) := by decide +kernel
theorem dX7_seekLine_156 : decode cX7_seekLine 156 = .ok (.istore 4, 2) := by decide +kernel
theorem dX7_seekLine_158 : decode cX7_seekLine 158 = .ok (.iinc 5 1, 3) := by decide +kernel
theorem dX7_seekLine_161 : decode cX7_seekLine 161 = .ok (.goto (-95), 3) := by decide +kernel
theorem dX7_seekLine_164 : decode cX7_seekLine 164 = .ok (.iload_n 3, 1) := by decide +kernel
theorem dX7_seekLine_165 : decode cX7_seekLine 165 = .ok (.ireturn, 1) := by decide +kernel
theorem oG_seekLine : zok yX7_seekLine 1 := by decide +kernel
theorem dX7_stepRow_0 : decode cX7_stepRow 0 = .ok (.iload_n 1, 1) := by decide +kernel
theorem dX7_stepRow_1 : decode cX7_stepRow 1 = .ok (.iconst 2, 1) := by decide +kernel
theorem dX7_stepRow_2 : decode cX7_stepRow 2 = .ok (.isub, 1) := by decide +kernel
theorem dX7_stepRow_3 : decode cX7_stepRow 3 = .ok (.istore_n 2, 1) := by decide +kernel
theorem dX7_stepRow_4 : decode cX7_stepRow 4 = .ok (.iload_n 2, 1) := by decide +kernel
theorem dX7_stepRow_5 : decode cX7_stepRow 5 = .ok (.ifCond .lt 20, 3) := by decide +kernel
theorem dX7_stepRow_8 : decode cX7_stepRow 8 = .ok (.aload_n 0, 1) := by decide +kernel
theorem dX7_stepRow_9 : decode cX7_stepRow 9 = .ok (.iload_n 2, 1) := by decide +kernel
theorem dX7_stepRow_10 : decode cX7_stepRow 10 = .ok (.iaload, 1) := by decide +kernel
theorem dX7_stepRow_11 : decode cX7_stepRow 11 = .ok (.aload_n 0, 1) := by decide +kernel
theorem dX7_stepRow_12 : decode cX7_stepRow 12 = .ok (.iload_n 2, 1) := by decide +kernel
theorem dX7_stepRow_13 : decode cX7_stepRow 13 = .ok (.iconst 1, 1) := by decide +kernel
theorem dX7_stepRow_14 : decode cX7_stepRow 14 = .ok (.iadd, 1) := by decide +kernel
theorem dX7_stepRow_15 : decode cX7_stepRow 15 = .ok (.iaload, 1) := by decide +kernel
theorem dX7_stepRow_16 : decode cX7_stepRow 16 = .ok (.if_icmp .le 9, 3) := by decide +kernel
theorem dX7_stepRow_19 : decode cX7_stepRow 19 = .ok (.iinc 2 (-1), 3) := by decide +kernel
theorem dX7_stepRow_22 : decode cX7_stepRow 22 = .ok (.goto (-18), 3) := by decide +kernel
theorem dX7_stepRow_25 : decode cX7_stepRow 25 = .ok (.iload_n 2, 1) := by decide +kernel
theorem dX7_stepRow_26 : decode cX7_stepRow 26 = .ok (.ifCond .ge 5, 3) := by decide +kernel
theorem dX7_stepRow_29 : decode cX7_stepRow 29 = .ok (.iconst 0, 1) := by decide +kernel
theorem dX7_stepRow_30 : decode cX7_stepRow 30 = .ok (.ireturn, 1) := by decide +kernel
theorem dX7_stepRow_31 : decode cX7_stepRow 31 = .ok (.iload_n 1, 1) := by decide +kernel
theorem dX7_stepRow_32 : decode cX7_stepRow 32 = .ok (.iconst 1, 1) := by decide +kernel
theorem dX7_stepRow_33 : decode cX7_stepRow 33 = .ok (.isub, 1) := by decide +kernel
theorem dX7_stepRow_34 : decode cX7_stepRow 34 = .ok (.istore_n 3, 1) := by decide +kernel
theorem dX7_stepRow_35 : decode cX7_stepRow 35 = .ok (.iload_n 3, 1) := by decide +kernel
theorem dX7_stepRow_36 : decode cX7_stepRow 36 = .ok (.iload_n 2, 1) := by decide +kernel
theorem dX7_stepRow_37 : decode cX7_stepRow 37 = .ok (.if_icmp .le 18, 3) := by decide +kernel
theorem dX7_stepRow_40 : decode cX7_stepRow 40 = .ok (.aload_n 0, 1) := by decide +kernel
theorem dX7_stepRow_41 : decode cX7_stepRow 41 = .ok (.iload_n 3, 1) := by decide +kernel
theorem dX7_stepRow_42 : decode cX7_stepRow 42 = .ok (.iaload, 1) := by decide +kernel
theorem dX7_stepRow_43 : decode cX7_stepRow 43 = .ok (.aload_n 0, 1) := by decide +kernel
theorem dX7_stepRow_44 : decode cX7_stepRow 44 = .ok (.iload_n 2, 1) := by decide +kernel
theorem dX7_stepRow_45 : decode cX7_stepRow 45 = .ok (.iaload, 1) := by decide +kernel
theorem dX7_stepRow_46 : decode cX7_stepRow 46 = .ok (.if_icmp .ge 9, 3) := by decide +kernel
theorem dX7_stepRow_49 : decode cX7_stepRow 49 = .ok (.iinc 3 (-1), 3) := by decide +kernel
theorem dX7_stepRow_52 : decode cX7_stepRow 52 = .ok (.goto (-17), 3) := by decide +kernel
theorem dX7_stepRow_55 : decode cX7_stepRow 55 = .ok (.aload_n 0, 1) := by decide +kernel
theorem dX7_stepRow_56 : decode cX7_stepRow 56 = .ok (.iload_n 2, 1) := by decide +kernel
theorem dX7_stepRow_57 : decode cX7_stepRow 57 = .ok (.iload_n 3, 1) := by decide +kernel
theorem dX7_stepRow_58 : decode cX7_stepRow 58 = .ok (.invokestatic 283, 3) := by decide +kernel
theorem dX7_stepRow_61 : decode cX7_stepRow 61 = .ok (.iload_n 2, 1) := by decide +kernel
theorem dX7_stepRow_62 : decode cX7_stepRow 62 = .ok (.iconst 1, 1) := by decide +kernel
theorem dX7_stepRow_63 : decode cX7_stepRow 63 = .ok (.iadd, 1) := by decide +kernel
theorem dX7_stepRow_64 : decode cX7_stepRow 64 = .ok (.istore 4, 2) := by decide +kernel
theorem dX7_stepRow_66 : decode cX7_stepRow 66 = .ok (.iload_n 1, 1) := by decide +kernel
theorem dX7_stepRow_67 : decode cX7_stepRow 67 = .ok (.iconst 1, 1) := by decide +kernel
theorem dX7_stepRow_68 : decode cX7_stepRow 68 = .ok (.isub, 1) := by decide +kernel
theorem dX7_stepRow_69 : decode cX7_stepRow 69 = .ok (.istore 5, 2) := by decide +kernel
theorem dX7_stepRow_71 : decode cX7_stepRow 71 = .ok (.iload 4, 2) := by decide +kernel
theorem dX7_stepRow_73 : decode cX7_stepRow 73 = .ok (.iload 5, 2) := by decide +kernel
theorem dX7_stepRow_75 : decode cX7_stepRow 75 = .ok (.if_icmp .ge 20, 3) := by decide +kernel
theorem dX7_stepRow_78 : decode cX7_stepRow 78 = .ok (.aload_n 0, 1) := by decide +kernel
theorem dX7_stepRow_79 : decode cX7_stepRow 79 = .ok (.iload 4, 2) := by decide +kernel
theorem dX7_stepRow_81 : decode cX7_stepRow 81 = .ok (.iload 5, 2) := by decide +kernel
theorem dX7_stepRow_83 : decode cX7_stepRow 83 = .ok (.invokestatic 283, 3) := by decide +kernel
theorem dX7_stepRow_86 : decode cX7_stepRow 86 = .ok (.iinc 4 1, 3) := by decide +kernel
theorem dX7_stepRow_89 : decode cX7_stepRow 89 = .ok (.iinc 5 (-1), 3) := by decide +kernel
theorem dX7_stepRow_92 : decode cX7_stepRow 92 = .ok (.goto (-21), 3) := by decide +kernel
theorem dX7_stepRow_95 : decode cX7_stepRow 95 = .ok (.iconst 1, 1) := by decide +kernel
theorem dX7_stepRow_96 : decode cX7_stepRow 96 = .ok (.ireturn, 1) := by decide +kernel
theorem oG_stepRow : zok yX7_stepRow 2 := by decide +kernel
theorem dX7_exchange_0 : decode cX7_exchange 0 = .ok (.aload_n 0, 1) := by decide +kernel
theorem dX7_exchange_1 : decode cX7_exchange 1 = .ok (.iload_n 1, 1) := by decide +kernel
theorem dX7_exchange_2 : decode cX7_exchange 2 = .ok (.iaload, 1) := by decide +kernel
theorem dX7_exchange_3 : decode cX7_exchange 3 = .ok (.istore_n 3, 1) := by decide +kernel
theorem dX7_exchange_4 : decode cX7_exchange 4 = .ok (.aload_n 0, 1) := by decide +kernel
theorem dX7_exchange_5 : decode cX7_exchange 5 = .ok (.iload_n 1, 1) := by decide +kernel
theorem dX7_exchange_6 : decode cX7_exchange 6 = .ok (.aload_n 0, 1) := by decide +kernel
theorem dX7_exchange_7 : decode cX7_exchange 7 = .ok (.iload_n 2, 1) := by decide +kernel
theorem dX7_exchange_8 : decode cX7_exchange 8 = .ok (.iaload, 1) := by decide +kernel
theorem dX7_exchange_9 : decode cX7_exchange 9 = .ok (.iastore, 1) := by decide +kernel
theorem dX7_exchange_10 : decode cX7_exchange 10 = .ok (.aload_n 0, 1) := by decide +kernel
theorem dX7_exchange_11 : decode cX7_exchange 11 = .ok (.iload_n 2, 1) := by decide +kernel
theorem dX7_exchange_12 : decode cX7_exchange 12 = .ok (.iload_n 3, 1) := by decide +kernel
theorem dX7_exchange_13 : decode cX7_exchange 13 = .ok (.iastore, 1) := by decide +kernel
theorem dX7_exchange_14 : decode cX7_exchange 14 = .ok (.return_, 1) := by decide +kernel
theorem oG_exchange : zok yX7_exchange 3 := by decide +kernel
theorem dX7_worth_0 : decode cX7_worth 0 = .ok (.aload_n 0, 1) := by decide +kernel
theorem dX7_worth_1 : decode cX7_worth 1 = .ok (.getfield 12, 3) := by decide +kernel
theorem dX7_worth_4 : decode cX7_worth 4 = .ok (.iload_n 1, 1) := by decide +kernel
theorem dX7_worth_5 : decode cX7_worth 5 = .ok (.invokevirtual 81, 3) := by decide +kernel
theorem dX7_worth_8 : decode cX7_worth 8 = .ok (.ifCond .ne 7, 3) := by decide +kernel
theorem dX7_worth_11 : decode cX7_worth 11 = .ok (.sipush (-1001), 3) := by decide +kernel
theorem dX7_worth_14 : decode cX7_worth 14 = .ok (.ireturn, 1) := by decide +kernel
theorem dX7_worth_15 : decode cX7_worth 15 = .ok (.aload_n 0, 1) := by decide +kernel
theorem dX7_worth_16 : decode cX7_worth 16 = .ok (.getfield 12, 3) := by decide +kernel
theorem dX7_worth_19 : decode cX7_worth 19 = .ok (.getfield 88, 3) := by decide +kernel
theorem dX7_worth_22 : decode cX7_worth 22 = .ok (.iload_n 1, 1) := by decide +kernel
theorem dX7_worth_23 : decode cX7_worth 23 = .ok (.aaload, 1) := by decide +kernel
theorem dX7_worth_24 : decode cX7_worth 24 = .ok (.astore_n 2, 1) := by decide +kernel
theorem dX7_worth_25 : decode cX7_worth 25 = .ok (.aload_n 2, 1) := by decide +kernel
theorem dX7_worth_26 : decode cX7_worth 26 = .ok (.getfield 111, 3) := by decide +kernel
theorem dX7_worth_29 : decode cX7_worth 29 = .ok (.iconst 3, 1) := by decide +kernel
theorem dX7_worth_30 : decode cX7_worth 30 = .ok (.invokestatic 182, 3) := by decide +kernel
theorem dX7_worth_33 : decode cX7_worth 33 = .ok (.ifCond .ne 7, 3) := by decide +kernel
theorem dX7_worth_36 : decode cX7_worth 36 = .ok (.sipush (-1003), 3) := by decide +kernel
theorem dX7_worth_39 : decode cX7_worth 39 = .ok (.ireturn, 1) := by decide +kernel
theorem dX7_worth_40 : decode cX7_worth 40 = .ok (.iconst 0, 1) := by decide +kernel
theorem dX7_worth_41 : decode cX7_worth 41 = .ok (.istore_n 3, 1) := by decide +kernel
theorem dX7_worth_42 : decode cX7_worth 42 = .ok (.iconst 0, 1) := by decide +kernel
theorem dX7_worth_43 : decode cX7_worth 43 = .ok (.istore 4, 2) := by decide +kernel
theorem dX7_worth_45 : decode cX7_worth 45 = .ok (.iload 4, 2) := by decide +kernel
theorem dX7_worth_47 : decode cX7_worth 47 = .ok (.aload_n 0, 1) := by decide +kernel
theorem dX7_worth_48 : decode cX7_worth 48 = .ok (.getfield 12, 3) := by decide +kernel
theorem dX7_worth_51 : decode cX7_worth 51 = .ok (.getfield 73, 3) := by decide +kernel
theorem dX7_worth_54 : decode cX7_worth 54 = .ok (.if_icmp .ge 79, 3) := by decide +kernel
theorem dX7_worth_57 : decode cX7_worth 57 = .ok (.iload 4, 2) := by decide +kernel
theorem dX7_worth_59 : decode cX7_worth 59 = .ok (.iload_n 1, 1) := by decide +kernel
theorem dX7_worth_60 : decode cX7_worth 60 = .ok (.if_icmp .ne 6, 3) := by decide +kernel
theorem dX7_worth_63 : decode cX7_worth 63 = .ok (.goto 64, 3) := by decide +kernel
theorem dX7_worth_66 : decode cX7_worth 66 = .ok (.aload_n 0, 1) := by decide +kernel
theorem dX7_worth_67 : decode cX7_worth 67 = .ok (.aload_n 0, 1) := by decide +kernel
theorem dX7_worth_68 : decode cX7_worth 68 = .ok (.getfield 12, 3) := by decide +kernel
theorem dX7_worth_71 : decode cX7_worth 71 = .ok (.iload 4, 2) := by decide +kernel
theorem dX7_worth_73 : decode cX7_worth 73 = .ok (.invokevirtual 151, 3) := by decide +kernel
theorem dX7_worth_76 : decode cX7_worth 76 = .ok (.pop, 1) := by decide +kernel
theorem dX7_worth_77 : decode cX7_worth 77 = .ok (.aload_n 0, 1) := by decide +kernel
theorem dX7_worth_78 : decode cX7_worth 78 = .ok (.getfield 45, 3) := by decide +kernel
theorem dX7_worth_81 : decode cX7_worth 81 = .ok (.getfield 154, 3) := by decide +kernel
theorem dX7_worth_84 : decode cX7_worth 84 = .ok (.iload_n 1, 1) := by decide +kernel
theorem dX7_worth_85 : decode cX7_worth 85 = .ok (.iaload, 1) := by decide +kernel
theorem dX7_worth_86 : decode cX7_worth 86 = .ok (.aload_n 0, 1) := by decide +kernel
theorem dX7_worth_87 : decode cX7_worth 87 = .ok (.getfield 45, 3) := by decide +kernel
theorem dX7_worth_90 : decode cX7_worth 90 = .ok (.getfield 186, 3) := by decide +kernel
theorem dX7_worth_93 : decode cX7_worth 93 = .ok (.if_icmp .ne 6, 3) := by decide +kernel
theorem dX7_worth_96 : decode cX7_worth 96 = .ok (.iinc 3 1, 3) := by decide +kernel
theorem dX7_worth_99 : decode cX7_worth 99 = .ok (.aload_n 0, 1) := by decide +kernel
theorem dX7_worth_100 : decode cX7_worth 100 = .ok (.aload_n 2, 1) := by decide +kernel
theorem dX7_worth_101 : decode cX7_worth 101 = .ok (.aload_n 0, 1) := by decide +kernel
theorem dX7_worth_102 : decode cX7_worth 102 = .ok (.getfield 12, 3) := by decide +kernel
theorem dX7_worth_105 : decode cX7_worth 105 = .ok (.getfield 88, 3) := by decide +kernel
theorem dX7_worth_108 : decode cX7_worth 108 = .ok (.iload 4, 2) := by decide +kernel
theorem dX7_worth_110 : decode cX7_worth 110 = .ok (.aaload, 1) := by decide +kernel
theorem dX7_worth_111 : decode cX7_worth 111 = .ok (.invokevirtual 189, 3) := by decide +kernel
theorem dX7_worth_114 : decode cX7_worth 114 = .ok (.aload_n 0, 1) := by decide +kernel
theorem dX7_worth_115 : decode cX7_worth 115 = .ok (.getfield 45, 3) := by decide +kernel
theorem dX7_worth_118 : decode cX7_worth 118 = .ok (.getfield 186, 3) := by decide +kernel
theorem dX7_worth_121 : decode cX7_worth 121 = .ok (.if_icmp .ne 6, 3) := by decide +kernel
theorem dX7_worth_124 : decode cX7_worth 124 = .ok (.iinc 3 (-1), 3) := by decide +kernel
theorem dX7_worth_127 : decode cX7_worth 127 = .ok (.iinc 4 1, 3) := by decide +kernel
theorem dX7_worth_130 : decode cX7_worth 130 = .ok (.goto (-85), 3) := by decide +kernel
theorem dX7_worth_133 : decode cX7_worth 133 = .ok (.iload_n 3, 1) := by decide +kernel
theorem dX7_worth_134 : decode cX7_worth 134 = .ok (.ireturn, 1) := by decide +kernel
theorem oG_worth : zok yX7_worth 1 := by decide +kernel
theorem dX7_guessOfGuest_0 : decode cX7_guessOfGuest 0 = .ok (.iconst 0, 1) := by decide +kernel
theorem dX7_guessOfGuest_1 : decode cX7_guessOfGuest 1 = .ok (.istore_n 3, 1) := by decide +kernel
theorem dX7_guessOfGuest_2 : decode cX7_guessOfGuest 2 = .ok (.aload_n 0, 1) := by decide +kernel
theorem dX7_guessOfGuest_3 : decode cX7_guessOfGuest 3 = .ok (.invokevirtual 136, 3) := by decide +kernel
theorem dX7_guessOfGuest_6 : decode cX7_guessOfGuest 6 = .ok (.aload_n 1, 1) := by decide +kernel
theorem dX7_guessOfGuest_7 : decode cX7_guessOfGuest 7 = .ok (.aload_n 2, 1) := by decide +kernel
theorem dX7_guessOfGuest_8 : decode cX7_guessOfGuest 8 = .ok (.iconst 0, 1) := by decide +kernel
theorem dX7_guessOfGuest_9 : decode cX7_guessOfGuest 9 = .ok (.invokevirtual 143, 3) := by decide +kernel
theorem dX7_guessOfGuest_12 : decode cX7_guessOfGuest 12 = .ok (.istore 4, 2) := by decide +kernel
theorem dX7_guessOfGuest_14 : decode cX7_guessOfGuest 14 = .ok (.iconst 1, 1) := by decide +kernel
theorem dX7_guessOfGuest_15 : decode cX7_guessOfGuest 15 = .ok (.istore 5, 2) := by decide +kernel
theorem dX7_guessOfGuest_17 : decode cX7_guessOfGuest 17 = .ok (.iload 5, 2) := by decide +kernel
theorem dX7_guessOfGuest_19 : decode cX7_guessOfGuest 19 = .ok (.iconst 3, 1) := by decide +kernel
theorem dX7_guessOfGuest_20 : decode cX7_guessOfGuest 20 = .ok (.if_icmp .ge 36, 3) := by decide +kernel
theorem dX7_guessOfGuest_23 : decode cX7_guessOfGuest 23 = .ok (.aload_n 0, 1) := by decide +kernel
theorem dX7_guessOfGuest_24 : decode cX7_guessOfGuest 24 = .ok (.invokevirtual 136, 3) := by decide +kernel
theorem dX7_guessOfGuest_27 : decode cX7_guessOfGuest 27 = .ok (.aload_n 1, 1) := by decide +kernel
theorem dX7_guessOfGuest_28 : decode cX7_guessOfGuest 28 = .ok (.aload_n 2, 1) := by decide +kernel
theorem dX7_guessOfGuest_29 : decode cX7_guessOfGuest 29 = .ok (.iload 5, 2) := by decide +kernel
theorem dX7_guessOfGuest_31 : decode cX7_guessOfGuest 31 = .ok (.invokevirtual 143, 3) := by decide +kernel
theorem dX7_guessOfGuest_34 : decode cX7_guessOfGuest 34 = .ok (.istore 6, 2) := by decide +kernel
theorem dX7_guessOfGuest_36 : decode cX7_guessOfGuest 36 = .ok (.iload 6, 2) := by decide +kernel
theorem dX7_guessOfGuest_38 : decode cX7_guessOfGuest 38 = .ok (.iload 4, 2) := by decide +kernel
theorem dX7_guessOfGuest_40 : decode cX7_guessOfGuest 40 = .ok (.if_icmp .le 10, 3) := by decide +kernel
theorem dX7_guessOfGuest_43 : decode cX7_guessOfGuest 43 = .ok (.iload 6, 2) := by decide +kernel
theorem dX7_guessOfGuest_45 : decode cX7_guessOfGuest 45 = .ok (.istore 4, 2) := by decide +kernel
theorem dX7_guessOfGuest_47 : decode cX7_guessOfGuest 47 = .ok (.iload 5, 2) := by decide +kernel
theorem dX7_guessOfGuest_49 : decode cX7_guessOfGuest 49 = .ok (.istore_n 3, 1) := by decide +kernel
theorem dX7_guessOfGuest_50 : decode cX7_guessOfGuest 50 = .ok (.iinc 5 1, 3) := by decide +kernel
theorem dX7_guessOfGuest_53 : decode cX7_guessOfGuest 53 = .ok (.goto (-36), 3) := by decide +kernel
theorem dX7_guessOfGuest_56 : decode cX7_guessOfGuest 56 = .ok (.iload_n 3, 1) := by decide +kernel
theorem dX7_guessOfGuest_57 : decode cX7_guessOfGuest 57 = .ok (.ireturn, 1) := by decide +kernel
theorem oG_guessOfGuest : zok yX7_guessOfGuest 2 := by decide +kernel
theorem dX7_see_0 : decode cX7_see 0 = .ok (.iload_n 1, 1) := by decide +kernel
theorem dX7_see_1 : decode cX7_see 1 = .ok (.invokestatic 85, 3) := by decide +kernel
theorem dX7_see_4 : decode cX7_see 4 = .ok (.ifCond .ne 5, 3) := by decide +kernel
theorem dX7_see_7 : decode cX7_see 7 = .ok (.iconst (-1), 1) := by decide +kernel
theorem dX7_see_8 : decode cX7_see 8 = .ok (.ireturn, 1) := by decide +kernel
theorem dX7_see_9 : decode cX7_see 9 = .ok (.iload_n 2, 1) := by decide +kernel
theorem dX7_see_10 : decode cX7_see 10 = .ok (.ifCond .lt 8, 3) := by decide +kernel
theorem dX7_see_13 : decode cX7_see 13 = .ok (.iload_n 2, 1) := by decide +kernel
theorem dX7_see_14 : decode cX7_see 14 = .ok (.iconst 5, 1) := by decide +kernel
theorem dX7_see_15 : decode cX7_see 15 = .ok (.if_icmp .le 6, 3) := by decide +kernel
theorem dX7_see_18 : decode cX7_see 18 = .ok (.bipush (-2), 2) := by decide +kernel
theorem dX7_see_20 : decode cX7_see 20 = .ok (.ireturn, 1) := by decide +kernel
theorem dX7_see_21 : decode cX7_see 21 = .ok (.aload_n 0, 1) := by decide +kernel
theorem dX7_see_22 : decode cX7_see 22 = .ok (.getfield 12, 3) := by decide +kernel
theorem dX7_see_25 : decode cX7_see 25 = .ok (.getfield 193, 3) := by decide +kernel
theorem dX7_see_28 : decode cX7_see 28 = .ok (.iload_n 1, 1) := by decide +kernel
theorem dX7_see_29 : decode cX7_see 29 = .ok (.iaload, 1) := by decide +kernel
theorem dX7_see_30 : decode cX7_see 30 = .ok (.istore_n 3, 1) := by decide +kernel
theorem dX7_see_31 : decode cX7_see 31 = .ok (.aload_n 0, 1) := by decide +kernel
theorem dX7_see_32 : decode cX7_see 32 = .ok (.getfield 12, 3) := by decide +kernel
theorem dX7_see_35 : decode cX7_see 35 = .ok (.getfield 193, 3) := by decide +kernel
theorem dX7_see_38 : decode cX7_see 38 = .ok (.iload_n 1, 1) := by decide +kernel
theorem dX7_see_39 : decode cX7_see 39 = .ok (.iload_n 2, 1) := by decide +kernel
theorem dX7_see_40 : decode cX7_see 40 = .ok (.iastore, 1) := by decide +kernel
theorem dX7_see_41 : decode cX7_see 41 = .ok (.iload_n 3, 1) := by decide +kernel
theorem dX7_see_42 : decode cX7_see 42 = .ok (.ireturn, 1) := by decide +kernel
theorem oG_see : zok yX7_see 2 := by decide +kernel
theorem dX7_lies_0 : decode cX7_lies 0 = .ok (.aload_n 0, 1) := by decide +kernel
theorem dX7_lies_1 : decode cX7_lies 1 = .ok (.getfield 12, 3) := by decide +kernel
theorem dX7_lies_4 : decode cX7_lies 4 = .ok (.iload_n 1, 1) := by decide +kernel
theorem dX7_lies_5 : decode cX7_lies 5 = .ok (.invokevirtual 81, 3) := by decide +kernel
theorem dX7_lies_8 : decode cX7_lies 8 = .ok (.ifCond .ne 5, 3) := by decide +kernel
theorem dX7_lies_11 : decode cX7_lies 11 = .ok (.iconst (-1), 1) := by decide +kernel
theorem dX7_lies_12 : decode cX7_lies 12 = .ok (.ireturn, 1) := by decide +kernel
theorem dX7_lies_13 : decode cX7_lies 13 = .ok (.aload_n 0, 1) := by decide +kernel
theorem dX7_lies_14 : decode cX7_lies 14 = .ok (.getfield 21, 3) := by decide +kernel
theorem dX7_lies_17 : decode cX7_lies 17 = .ok (.aload_n 0, 1) := by decide +kernel
theorem dX7_lies_18 : decode cX7_lies 18 = .ok (.getfield 12, 3) := by decide +kernel
theorem dX7_lies_21 : decode cX7_lies 21 = .ok (.invokevirtual 160, 3) := by decide +kernel
theorem dX7_lies_24 : decode cX7_lies 24 = .ok (.iconst 0, 1) := by decide +kernel
theorem dX7_lies_25 : decode cX7_lies 25 = .ok (.istore_n 2, 1) := by decide +kernel
theorem dX7_lies_26 : decode cX7_lies 26 = .ok (.iconst 0, 1) := by decide +kernel
theorem dX7_lies_27 : decode cX7_lies 27 = .ok (.istore_n 3, 1) := by decide +kernel
theorem dX7_lies_28 : decode cX7_lies 28 = .ok (.iload_n 3, 1) := by decide +kernel
theorem dX7_lies_29 : decode cX7_lies 29 = .ok (.iconst 3, 1) := by decide +kernel
theorem dX7_lies_30 : decode cX7_lies 30 = .ok (.if_icmp .ge 55, 3) := by decide +kernel
theorem dX7_lies_33 : decode cX7_lies 33 = .ok (.aload_n 0, 1) := by decide +kernel
theorem dX7_lies_34 : decode cX7_lies 34 = .ok (.getfield 21, 3) := by decide +kernel
theorem dX7_lies_37 : decode cX7_lies 37 = .ok (.getfield 88, 3) := by decide +kernel
theorem dX7_lies_40 : decode cX7_lies 40 = .ok (.iload_n 1, 1) := by decide +kernel
theorem dX7_lies_41 : decode cX7_lies 41 = .ok (.aaload, 1) := by decide +kernel
theorem dX7_lies_42 : decode cX7_lies 42 = .ok (.iload_n 3, 1) := by decide +kernel
theorem dX7_lies_43 : decode cX7_lies 43 = .ok (.putfield 100, 3) := by decide +kernel
theorem dX7_lies_46 : decode cX7_lies 46 = .ok (.aload_n 0, 1) := by decide +kernel
theorem dX7_lies_47 : decode cX7_lies 47 = .ok (.aload_n 0, 1) := by decide +kernel
theorem dX7_lies_48 : decode cX7_lies 48 = .ok (.getfield 21, 3) := by decide +kernel
theorem dX7_lies_51 : decode cX7_lies 51 = .ok (.iload_n 1, 1) := by decide +kernel
theorem dX7_lies_52 : decode cX7_lies 52 = .ok (.invokevirtual 151, 3) := by decide +kernel
theorem dX7_lies_55 : decode cX7_lies 55 = .ok (.pop, 1) := by decide +kernel
theorem dX7_lies_56 : decode cX7_lies 56 = .ok (.aload_n 0, 1) := by decide +kernel
theorem dX7_lies_57 : decode cX7_lies 57 = .ok (.getfield 45, 3) := by decide +kernel
theorem dX7_lies_60 : decode cX7_lies 60 = .ok (.aload_n 0, 1) := by decide +kernel
theorem dX7_lies_61 : decode cX7_lies 61 = .ok (.getfield 12, 3) := by decide +kernel
theorem dX7_lies_64 : decode cX7_lies 64 = .ok (.getfield 193, 3) := by decide +kernel
theorem dX7_lies_67 : decode cX7_lies 67 = .ok (.invokevirtual 196, 3) := by decide +kernel
theorem dX7_lies_70 : decode cX7_lies 70 = .ok (.ifCond .eq 9, 3) := by decide +kernel
theorem dX7_lies_73 : decode cX7_lies 73 = .ok (.iload_n 2, 1) := by decide +kernel
theorem dX7_lies_74 : decode cX7_lies 74 = .ok (.iconst 1, 1) := by decide +kernel
theorem dX7_lies_75 : decode cX7_lies 75 = .ok (.iload_n 3, 1) := by decide +kernel
theorem dX7_lies_76 : decode cX7_lies 76 = .ok (.ishl, 1) := by decide +kernel
theorem dX7_lies_77 : decode cX7_lies 77 = .ok (.ior, 1) := by decide +kernel
theorem dX7_lies_78 : decode cX7_lies 78 = .ok (.istore_n 2, 1) := by decide +kernel
theorem dX7_lies_79 : decode cX7_lies 79 = .ok (.iinc 3 1, 3) := by decide +kernel
theorem dX7_lies_82 : decode cX7_lies 82 = .ok (.goto (-54), 3) := by decide +kernel
theorem dX7_lies_85 : decode cX7_lies 85 = .ok (.iload_n 2, 1) := by decide +kernel
theorem dX7_lies_86 : decode cX7_lies 86 = .ok (.ireturn, 1) := by decide +kernel
theorem oG_lies : zok yX7_lies 1 := by decide +kernel
theorem dX4_isRaised_0 : decode cX4_isRaised 0 = .ok (.aload_n 0, 1) := by decide +kernel
theorem dX4_isRaised_1 : decode cX4_isRaised 1 = .ok (.getfield 22, 3) := by decide +kernel
theorem dX4_isRaised_4 : decode cX4_isRaised 4 = .ok (.iconst 0, 1) := by decide +kernel
theorem dX4_isRaised_5 : decode cX4_isRaised 5 = .ok (.iaload, 1) := by decide +kernel
theorem dX4_isRaised_6 : decode cX4_isRaised 6 = .ok (.aload_n 1, 1) := by decide +kernel
theorem dX4_isRaised_7 : decode cX4_isRaised 7 = .ok (.iconst 0, 1) := by decide +kernel
theorem dX4_isRaised_8 : decode cX4_isRaised 8 = .ok (.iaload, 1) := by decide +kernel
theorem dX4_isRaised_9 : decode cX4_isRaised 9 = .ok (.if_icmp .ne 31, 3) := by decide +kernel
theorem dX4_isRaised_12 : decode cX4_isRaised 12 = .ok (.aload_n 0, 1) := by decide +kernel
theorem dX4_isRaised_13 : decode cX4_isRaised 13 = .ok (.getfield 22, 3) := by decide +kernel
theorem dX4_isRaised_16 : decode cX4_isRaised 16 = .ok (.iconst 1, 1) := by decide +kernel
theorem dX4_isRaised_17 : decode cX4_isRaised 17 = .ok (.iaload, 1) := by decide +kernel
theorem dX4_isRaised_18 : decode cX4_isRaised 18 = .ok (.aload_n 1, 1) := by decide +kernel
theorem dX4_isRaised_19 : decode cX4_isRaised 19 = .ok (.iconst 1, 1) := by decide +kernel
theorem dX4_isRaised_20 : decode cX4_isRaised 20 = .ok (.iaload, 1) := by decide +kernel
theorem dX4_isRaised_21 : decode cX4_isRaised 21 = .ok (.if_icmp .ne 19, 3) := by decide +kernel
theorem dX4_isRaised_24 : decode cX4_isRaised 24 = .ok (.aload_n 0, 1) := by decide +kernel
theorem dX4_isRaised_25 : decode cX4_isRaised 25 = .ok (.getfield 22, 3) := by decide +kernel
theorem dX4_isRaised_28 : decode cX4_isRaised 28 = .ok (.iconst 2, 1) := by decide +kernel
theorem dX4_isRaised_29 : decode cX4_isRaised 29 = .ok (.iaload, 1) := by decide +kernel
theorem dX4_isRaised_30 : decode cX4_isRaised 30 = .ok (.aload_n 1, 1) := by decide +kernel
theorem dX4_isRaised_31 : decode cX4_isRaised 31 = .ok (.iconst 2, 1) := by decide +kernel
theorem dX4_isRaised_32 : decode cX4_isRaised 32 = .ok (.iaload, 1) := by decide +kernel
theorem dX4_isRaised_33 : decode cX4_isRaised 33 = .ok (.if_icmp .ne 7, 3) := by decide +kernel
theorem dX4_isRaised_36 : decode cX4_isRaised 36 = .ok (.iconst 1, 1) := by decide +kernel
theorem dX4_isRaised_37 : decode cX4_isRaised 37 = .ok (.goto 4, 3) := by decide +kernel
theorem dX4_isRaised_40 : decode cX4_isRaised 40 = .ok (.iconst 0, 1) := by decide +kernel
theorem dX4_isRaised_41 : decode cX4_isRaised 41 = .ok (.ireturn, 1) := by decide +kernel
theorem oY_isRaised : zok yX4_isRaised 1 := by decide +kernel
theorem dX7_ends_0 : decode cX7_ends 0 = .ok (.aload_n 0, 1) := by decide +kernel
theorem dX7_ends_1 : decode cX7_ends 1 = .ok (.getfield 12, 3) := by decide +kernel
theorem dX7_ends_4 : decode cX7_ends 4 = .ok (.iload_n 1, 1) := by decide +kernel
theorem dX7_ends_5 : decode cX7_ends 5 = .ok (.invokevirtual 81, 3) := by decide +kernel
theorem dX7_ends_8 : decode cX7_ends 8 = .ok (.ifCond .eq 12, 3) := by decide +kernel
theorem dX7_ends_11 : decode cX7_ends 11 = .ok (.iload_n 3, 1) := by decide +kernel
theorem dX7_ends_12 : decode cX7_ends 12 = .ok (.ifCond .lt 8, 3) := by decide +kernel
theorem dX7_ends_15 : decode cX7_ends 15 = .ok (.iload_n 3, 1) := by decide +kernel
theorem dX7_ends_16 : decode cX7_ends 16 = .ok (.iconst 1, 1) := by decide +kernel
theorem dX7_ends_17 : decode cX7_ends 17 = .ok (.if_icmp .le 5, 3) := by decide +kernel
theorem dX7_ends_20 : decode cX7_ends 20 = .ok (.iconst (-1), 1) := by decide +kernel
theorem dX7_ends_21 : decode cX7_ends 21 = .ok (.ireturn, 1) := by decide +kernel
theorem dX7_ends_22 : decode cX7_ends 22 = .ok (.iload_n 2, 1) := by decide +kernel
theorem dX7_ends_23 : decode cX7_ends 23 = .ok (.ifCond .lt 9, 3) := by decide +kernel
theorem dX7_ends_26 : decode cX7_ends 26 = .ok (.iload_n 2, 1) := by decide +kernel
theorem dX7_ends_27 : decode cX7_ends 27 = .ok (.bipush 30, 2) := by decide +kernel
theorem dX7_ends_29 : decode cX7_ends 29 = .ok (.if_icmp .le 6, 3) := by decide +kernel
theorem dX7_ends_32 : decode cX7_ends 32 = .ok (.bipush (-2), 2) := by decide +kernel
theorem dX7_ends_34 : decode cX7_ends 34 = .ok (.ireturn, 1) := by decide +kernel
theorem dX7_ends_35 : decode cX7_ends 35 = .ok (.aload_n 0, 1) := by decide +kernel
theorem dX7_ends_36 : decode cX7_ends 36 = .ok (.getfield 21, 3) := by decide +kernel
theorem dX7_ends_39 : decode cX7_ends 39 = .ok (.aload_n 0, 1) := by decide +kernel
theorem dX7_ends_40 : decode cX7_ends 40 = .ok (.getfield 12, 3) := by decide +kernel
theorem dX7_ends_43 : decode cX7_ends 43 = .ok (.invokevirtual 160, 3) := by decide +kernel
theorem dX7_ends_46 : decode cX7_ends 46 = .ok (.iconst 0, 1) := by decide +kernel
theorem dX7_ends_47 : decode cX7_ends 47 = .ok (.istore 4, 2) := by decide +kernel
theorem dX7_ends_49 : decode cX7_ends 49 = .ok (.iload 4, 2) := by decide +kernel
theorem dX7_ends_51 : decode cX7_ends 51 = .ok (.iload_n 2, 1) := by decide +kernel
theorem dX7_ends_52 : decode cX7_ends 52 = .ok (.if_icmp .ge 43, 3) := by decide +kernel
theorem dX7_ends_55 : decode cX7_ends 55 = .ok (.aload_n 0, 1) := by decide +kernel
theorem dX7_ends_56 : decode cX7_ends 56 = .ok (.getfield 21, 3) := by decide +kernel
theorem dX7_ends_59 : decode cX7_ends 59 = .ok (.getfield 73, 3) := by decide +kernel
theorem dX7_ends_62 : decode cX7_ends 62 = .ok (.ifCond .le 33, 3) := by decide +kernel
theorem dX7_ends_65 : decode cX7_ends 65 = .ok (.aload_n 0, 1) := by decide +kernel
theorem dX7_ends_66 : decode cX7_ends 66 = .ok (.aload_n 0, 1) := by decide +kernel
theorem dX7_ends_67 : decode cX7_ends 67 = .ok (.getfield 21, 3) := by decide +kernel
theorem dX7_ends_70 : decode cX7_ends 70 = .ok (.aload_n 0, 1) := by decide +kernel
theorem dX7_ends_71 : decode cX7_ends 71 = .ok (.getfield 21, 3) := by decide +kernel
theorem dX7_ends_74 : decode cX7_ends 74 = .ok (.getfield 133, 3) := by decide +kernel
theorem dX7_ends_77 : decode cX7_ends 77 = .ok (.aload_n 0, 1) := by decide +kernel
theorem dX7_ends_78 : decode cX7_ends 78 = .ok (.getfield 21, 3) := by decide +kernel
theorem dX7_ends_81 : decode cX7_ends 81 = .ok (.getfield 73, 3) := by decide +kernel
theorem dX7_ends_84 : decode cX7_ends 84 = .ok (.irem, 1) := by decide +kernel
theorem dX7_ends_85 : decode cX7_ends 85 = .ok (.invokevirtual 147, 3) := by decide +kernel
theorem dX7_ends_88 : decode cX7_ends 88 = .ok (.pop, 1) := by decide +kernel
theorem dX7_ends_89 : decode cX7_ends 89 = .ok (.iinc 4 1, 3) := by decide +kernel
theorem dX7_ends_92 : decode cX7_ends 92 = .ok (.goto (-43), 3) := by decide +kernel
theorem dX7_ends_95 : decode cX7_ends 95 = .ok (.iload_n 3, 1) := by decide +kernel
theorem dX7_ends_96 : decode cX7_ends 96 = .ok (.ifCond .ne 18, 3) := by decide +kernel
theorem dX7_ends_99 : decode cX7_ends 99 = .ok (.aload_n 0, 1) := by decide +kernel
theorem dX7_ends_100 : decode cX7_ends 100 = .ok (.getfield 21, 3) := by decide +kernel
theorem dX7_ends_103 : decode cX7_ends 103 = .ok (.getfield 88, 3) := by decide +kernel
theorem dX7_ends_106 : decode cX7_ends 106 = .ok (.iload_n 1, 1) := by decide +kernel
theorem dX7_ends_107 : decode cX7_ends 107 = .ok (.aaload, 1) := by decide +kernel
theorem dX7_ends_108 : decode cX7_ends 108 = .ok (.getfield 200, 3) := by decide +kernel
theorem dX7_ends_111 : decode cX7_ends 111 = .ok (.goto 10, 3) := by decide +kernel
theorem dX7_ends_114 : decode cX7_ends 114 = .ok (.aload_n 0, 1) := by decide +kernel
theorem dX7_ends_115 : decode cX7_ends 115 = .ok (.getfield 21, 3) := by decide +kernel
theorem dX7_ends_118 : decode cX7_ends 118 = .ok (.invokevirtual 203, 3) := by decide +kernel
theorem dX7_ends_121 : decode cX7_ends 121 = .ok (.ireturn, 1) := by decide +kernel
theorem oG_ends : zok yX7_ends 3 := by decide +kernel
theorem dX2_leader_0 : decode cX2_leader 0 = .ok (.iconst 0, 1) := by decide +kernel
theorem dX2_leader_1 : decode cX2_leader 1 = .ok (.istore_n 1, 1) := by decide +kernel
theorem dX2_leader_2 : decode cX2_leader 2 = .ok (.iconst 1, 1) := by decide +kernel
theorem dX2_leader_3 : decode cX2_leader 3 = .ok (.istore_n 2, 1) := by decide +kernel
theorem dX2_leader_4 : decode cX2_leader 4 = .ok (.iload_n 2, 1) := by decide +kernel
theorem dX2_leader_5 : decode cX2_leader 5 = .ok (.aload_n 0, 1) := by decide +kernel
theorem dX2_leader_6 : decode cX2_leader 6 = .ok (.getfield 31, 3) := by decide +kernel
theorem dX2_leader_9 : decode cX2_leader 9 = .ok (.if_icmp .ge 32, 3) := by decide +kernel
theorem dX2_leader_12 : decode cX2_leader 12 = .ok (.aload_n 0, 1) := by decide +kernel
theorem dX2_leader_13 : decode cX2_leader 13 = .ok (.getfield 11, 3) := by decide +kernel
theorem dX2_leader_16 : decode cX2_leader 16 = .ok (.iload_n 2, 1) := by decide +kernel
theorem dX2_leader_17 : decode cX2_leader 17 = .ok (.aaload, 1) := by decide +kernel
theorem dX2_leader_18 : decode cX2_leader 18 = .ok (.getfield 41, 3) := by decide +kernel
theorem dX2_leader_21 : decode cX2_leader 21 = .ok (.aload_n 0, 1) := by decide +kernel
theorem dX2_leader_22 : decode cX2_leader 22 = .ok (.getfield 11, 3) := by decide +kernel
theorem dX2_leader_25 : decode cX2_leader 25 = .ok (.iload_n 1, 1) := by decide +kernel
theorem dX2_leader_26 : decode cX2_leader 26 = .ok (.aaload, 1) := by decide +kernel
theorem dX2_leader_27 : decode cX2_leader 27 = .ok (.getfield 41, 3) := by decide +kernel
theorem dX2_leader_30 : decode cX2_leader 30 = .ok (.if_icmp .le 5, 3) := by decide +kernel
theorem dX2_leader_33 : decode cX2_leader 33 = .ok (.iload_n 2, 1) := by decide +kernel
theorem dX2_leader_34 : decode cX2_leader 34 = .ok (.istore_n 1, 1) := by decide +kernel
theorem dX2_leader_35 : decode cX2_leader 35 = .ok (.iinc 2 1, 3) := by decide +kernel
theorem dX2_leader_38 : decode cX2_leader 38 = .ok (.goto (-34), 3) := by decide +kernel
theorem dX2_leader_41 : decode cX2_leader 41 = .ok (.iload_n 1, 1) := by decide +kernel
theorem dX2_leader_42 : decode cX2_leader 42 = .ok (.ireturn, 1) := by decide +kernel
theorem oP_leader : zok yX2_leader 0 := by decide +kernel
