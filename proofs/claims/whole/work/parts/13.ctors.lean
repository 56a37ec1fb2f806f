def zALC : List (Nat × Nat) := [(0, 0), (1, 0), (7, 0), (8, 0), (9, 0), (2, 0), (3, 0), (4, 0), (5, 0), (6, 0), (2, 1), (3, 1), (4, 1), (5, 1), (6, 1), (2, 2), (3, 2), (4, 2), (5, 2), (6, 2), (2, 3), (3, 3), (4, 3), (5, 3), (6, 3), (2, 4), (3, 4), (4, 4), (5, 4), (6, 4), (2, 5), (3, 5), (4, 5), (5, 5), (6, 5), (1, 1), (7, 1), (8, 1), (9, 1), (2, 6), (3, 6), (4, 6), (5, 6), (6, 6), (2, 7), (3, 7), (4, 7), (5, 7), (6, 7), (2, 8), (3, 8), (4, 8), (5, 8), (6, 8), (2, 9), (3, 9), (4, 9), (5, 9), (6, 9), (2, 10), (3, 10), (4, 10), (5, 10), (6, 10), (2, 11), (3, 11), (4, 11), (5, 11), (6, 11), (1, 2), (7, 2), (8, 2), (9, 2), (2, 12), (3, 12), (4, 12), (5, 12), (6, 12), (2, 13), (3, 13), (4, 13), (5, 13), (6, 13), (2, 14), (3, 14), (4, 14), (5, 14), (6, 14), (2, 15), (3, 15), (4, 15), (5, 15), (6, 15), (2, 16), (3, 16), (4, 16), (5, 16), (6, 16), (2, 17), (3, 17), (4, 17), (5, 17), (6, 17), (10, 0), (11, 0), (12, 0), (13, 6), (14, 6), (15, 6), (16, 0), (17, 0), (18, 0), (19, 0), (20, 0), (21, 0), (22, 0), (23, 0), (24, 0), (25, 0), (26, 0), (27, 0), (28, 0), (29, 0), (30, 0), (13, 0), (14, 0), (15, 0), (13, 1), (14, 1), (15, 1), (13, 2), (14, 2), (15, 2), (13, 3), (14, 3), (15, 3), (13, 4), (14, 4), (15, 4), (13, 5), (14, 5), (15, 5)]
def zALM : List (Nat × Nat) := [(40, 0), (41, 0), (42, 0), (43, 0), (44, 0), (45, 0), (46, 0), (47, 0), (48, 0), (49, 0), (50, 0), (51, 0), (52, 0), (53, 0), (54, 0), (55, 0), (56, 0), (57, 0), (58, 0), (59, 0), (60, 0), (61, 0), (62, 0), (63, 0), (64, 0), (65, 0), (66, 0), (67, 0), (68, 0), (69, 0), (70, 0), (71, 0), (72, 0), (73, 0), (74, 0), (75, 0), (76, 0), (77, 0), (78, 0), (79, 0), (80, 0), (81, 0), (82, 0), (83, 0), (84, 0), (85, 0)]
theorem dX6_init_0 : decode cX6_init 0 = .ok (.aload_n 0, 1) := by decide +kernel
theorem dX6_init_1 : decode cX6_init 1 = .ok (.invokespecial 3, 3) := by decide +kernel
theorem dX6_init_4 : decode cX6_init 4 = .ok (.aload_n 0, 1) := by decide +kernel
theorem dX6_init_5 : decode cX6_init 5 = .ok (.bipush 100, 2) := by decide +kernel
theorem dX6_init_7 : decode cX6_init 7 = .ok (.newarray .int, 2) := by decide +kernel
theorem dX6_init_9 : decode cX6_init 9 = .ok (.putfield 9, 3) := by decide +kernel
theorem dX6_init_12 : decode cX6_init 12 = .ok (.return_, 1) := by decide +kernel
theorem oX6_init : zok yX6_init 0 := by decide +kernel
theorem dX1_init_0 : decode cX1_init 0 = .ok (.aload_n 0, 1) := by decide +kernel
theorem dX1_init_1 : decode cX1_init 1 = .ok (.invokespecial 3, 3) := by decide +kernel
theorem dX1_init_4 : decode cX1_init 4 = .ok (.aload_n 0, 1) := by decide +kernel
theorem dX1_init_5 : decode cX1_init 5 = .ok (.bipush 100, 2) := by decide +kernel
theorem dX1_init_7 : decode cX1_init 7 = .ok (.newarray .int, 2) := by decide +kernel
theorem dX1_init_9 : decode cX1_init 9 = .ok (.putfield 9, 3) := by decide +kernel
theorem dX1_init_12 : decode cX1_init 12 = .ok (.aload_n 0, 1) := by decide +kernel
theorem dX1_init_13 : decode cX1_init 13 = .ok (.bipush 6, 2) := by decide +kernel
theorem dX1_init_15 : decode cX1_init 15 = .ok (.newarray .int, 2) := by decide +kernel
theorem dX1_init_17 : decode cX1_init 17 = .ok (.putfield 15, 3) := by decide +kernel
theorem dX1_init_20 : decode cX1_init 20 = .ok (.aload_n 0, 1) := by decide +kernel
theorem dX1_init_21 : decode cX1_init 21 = .ok (.bipush 10, 2) := by decide +kernel
theorem dX1_init_23 : decode cX1_init 23 = .ok (.putfield 18, 3) := by decide +kernel
theorem dX1_init_26 : decode cX1_init 26 = .ok (.return_, 1) := by decide +kernel
theorem oX1_init : zok yX1_init 0 := by decide +kernel
theorem dX4_init_0 : decode cX4_init 0 = .ok (.aload_n 0, 1) := by decide +kernel
theorem dX4_init_1 : decode cX4_init 1 = .ok (.invokespecial 3, 3) := by decide +kernel
theorem dX4_init_4 : decode cX4_init 4 = .ok (.aload_n 0, 1) := by decide +kernel
theorem dX4_init_5 : decode cX4_init 5 = .ok (.bipush 18, 2) := by decide +kernel
theorem dX4_init_7 : decode cX4_init 7 = .ok (.newarray .int, 2) := by decide +kernel
theorem dX4_init_9 : decode cX4_init 9 = .ok (.putfield 9, 3) := by decide +kernel
theorem dX4_init_12 : decode cX4_init 12 = .ok (.aload_n 0, 1) := by decide +kernel
theorem dX4_init_13 : decode cX4_init 13 = .ok (.bipush 6, 2) := by decide +kernel
theorem dX4_init_15 : decode cX4_init 15 = .ok (.newarray .int, 2) := by decide +kernel
theorem dX4_init_17 : decode cX4_init 17 = .ok (.putfield 15, 3) := by decide +kernel
theorem dX4_init_20 : decode cX4_init 20 = .ok (.aload_n 0, 1) := by decide +kernel
theorem dX4_init_21 : decode cX4_init 21 = .ok (.bipush 6, 2) := by decide +kernel
theorem dX4_init_23 : decode cX4_init 23 = .ok (.newarray .boolean, 2) := by decide +kernel
theorem dX4_init_25 : decode cX4_init 25 = .ok (.putfield 18, 3) := by decide +kernel
theorem dX4_init_28 : decode cX4_init 28 = .ok (.aload_n 0, 1) := by decide +kernel
theorem dX4_init_29 : decode cX4_init 29 = .ok (.iconst 3, 1) := by decide +kernel
theorem dX4_init_30 : decode cX4_init 30 = .ok (.newarray .int, 2) := by decide +kernel
theorem dX4_init_32 : decode cX4_init 32 = .ok (.putfield 22, 3) := by decide +kernel
theorem dX4_init_35 : decode cX4_init 35 = .ok (.aload_n 0, 1) := by decide +kernel
theorem dX4_init_36 : decode cX4_init 36 = .ok (.bipush 6, 2) := by decide +kernel
theorem dX4_init_38 : decode cX4_init 38 = .ok (.newarray .int, 2) := by decide +kernel
theorem dX4_init_40 : decode cX4_init 40 = .ok (.putfield 25, 3) := by decide +kernel
theorem dX4_init_43 : decode cX4_init 43 = .ok (.return_, 1) := by decide +kernel
theorem oX4_init : zok yX4_init 0 := by decide +kernel
theorem dX0_init_0 : decode cX0_init 0 = .ok (.aload_n 0, 1) := by decide +kernel
theorem dX0_init_1 : decode cX0_init 1 = .ok (.invokespecial 3, 3) := by decide +kernel
theorem dX0_init_4 : decode cX0_init 4 = .ok (.aload_n 0, 1) := by decide +kernel
theorem dX0_init_5 : decode cX0_init 5 = .ok (.bipush 20, 2) := by decide +kernel
theorem dX0_init_7 : decode cX0_init 7 = .ok (.newarray .int, 2) := by decide +kernel
theorem dX0_init_9 : decode cX0_init 9 = .ok (.putfield 11, 3) := by decide +kernel
theorem dX0_init_12 : decode cX0_init 12 = .ok (.return_, 1) := by decide +kernel
theorem oX0_init : zok yX0_init 0 := by decide +kernel
theorem dX5_init_0 : decode cX5_init 0 = .ok (.aload_n 0, 1) := by decide +kernel
theorem dX5_init_1 : decode cX5_init 1 = .ok (.invokespecial 1, 3) := by decide +kernel
theorem dX5_init_4 : decode cX5_init 4 = .ok (.aload_n 0, 1) := by decide +kernel
theorem dX5_init_5 : decode cX5_init 5 = .ok (.bipush 6, 2) := by decide +kernel
theorem dX5_init_7 : decode cX5_init 7 = .ok (.newarray .int, 2) := by decide +kernel
theorem dX5_init_9 : decode cX5_init 9 = .ok (.putfield 9, 3) := by decide +kernel
theorem dX5_init_12 : decode cX5_init 12 = .ok (.aload_n 0, 1) := by decide +kernel
theorem dX5_init_13 : decode cX5_init 13 = .ok (.bipush 6, 2) := by decide +kernel
theorem dX5_init_15 : decode cX5_init 15 = .ok (.newarray .int, 2) := by decide +kernel
theorem dX5_init_17 : decode cX5_init 17 = .ok (.putfield 13, 3) := by decide +kernel
theorem dX5_init_20 : decode cX5_init 20 = .ok (.aload_n 0, 1) := by decide +kernel
theorem dX5_init_21 : decode cX5_init 21 = .ok (.sipush 360, 3) := by decide +kernel
theorem dX5_init_24 : decode cX5_init 24 = .ok (.newarray .long, 2) := by decide +kernel
theorem dX5_init_26 : decode cX5_init 26 = .ok (.putfield 16, 3) := by decide +kernel
theorem dX5_init_29 : decode cX5_init 29 = .ok (.iconst 0, 1) := by decide +kernel
theorem dX5_init_30 : decode cX5_init 30 = .ok (.istore_n 1, 1) := by decide +kernel
theorem dX5_init_31 : decode cX5_init 31 = .ok (.iload_n 1, 1) := by decide +kernel
theorem dX5_init_32 : decode cX5_init 32 = .ok (.bipush 6, 2) := by decide +kernel
theorem dX5_init_34 : decode cX5_init 34 = .ok (.if_icmp .ge 16, 3) := by decide +kernel
theorem dX5_init_37 : decode cX5_init 37 = .ok (.aload_n 0, 1) := by decide +kernel
theorem dX5_init_38 : decode cX5_init 38 = .ok (.getfield 9, 3) := by decide +kernel
theorem dX5_init_41 : decode cX5_init 41 = .ok (.iload_n 1, 1) := by decide +kernel
theorem dX5_init_42 : decode cX5_init 42 = .ok (.iconst (-1), 1) := by decide +kernel
theorem dX5_init_43 : decode cX5_init 43 = .ok (.iastore, 1) := by decide +kernel
theorem dX5_init_44 : decode cX5_init 44 = .ok (.iinc 1 1, 3) := by decide +kernel
theorem dX5_init_47 : decode cX5_init 47 = .ok (.goto (-16), 3) := by decide +kernel
theorem dX5_init_50 : decode cX5_init 50 = .ok (.return_, 1) := by decide +kernel
theorem oX5_init : zok yX5_init 0 := by decide +kernel
theorem dX3_init_0 : decode cX3_init 0 = .ok (.aload_n 0, 1) := by decide +kernel
theorem dX3_init_1 : decode cX3_init 1 = .ok (.invokespecial 3, 3) := by decide +kernel
theorem dX3_init_4 : decode cX3_init 4 = .ok (.aload_n 0, 1) := by decide +kernel
theorem dX3_init_5 : decode cX3_init 5 = .ok (.iconst 3, 1) := by decide +kernel
theorem dX3_init_6 : decode cX3_init 6 = .ok (.newarray .int, 2) := by decide +kernel
theorem dX3_init_8 : decode cX3_init 8 = .ok (.putfield 9, 3) := by decide +kernel
theorem dX3_init_11 : decode cX3_init 11 = .ok (.aload_n 0, 1) := by decide +kernel
theorem dX3_init_12 : decode cX3_init 12 = .ok (.iconst 3, 1) := by decide +kernel
theorem dX3_init_13 : decode cX3_init 13 = .ok (.newarray .int, 2) := by decide +kernel
theorem dX3_init_15 : decode cX3_init 15 = .ok (.putfield 15, 3) := by decide +kernel
theorem dX3_init_18 : decode cX3_init 18 = .ok (.aload_n 0, 1) := by decide +kernel
theorem dX3_init_19 : decode cX3_init 19 = .ok (.iconst 3, 1) := by decide +kernel
theorem dX3_init_20 : decode cX3_init 20 = .ok (.newarray .int, 2) := by decide +kernel
theorem dX3_init_22 : decode cX3_init 22 = .ok (.putfield 18, 3) := by decide +kernel
theorem dX3_init_25 : decode cX3_init 25 = .ok (.aload_n 0, 1) := by decide +kernel
theorem dX3_init_26 : decode cX3_init 26 = .ok (.iconst 4, 1) := by decide +kernel
theorem dX3_init_27 : decode cX3_init 27 = .ok (.newarray .int, 2) := by decide +kernel
theorem dX3_init_29 : decode cX3_init 29 = .ok (.putfield 21, 3) := by decide +kernel
theorem dX3_init_32 : decode cX3_init 32 = .ok (.aload_n 0, 1) := by decide +kernel
theorem dX3_init_33 : decode cX3_init 33 = .ok (.iload_n 1, 1) := by decide +kernel
theorem dX3_init_34 : decode cX3_init 34 = .ok (.putfield 24, 3) := by decide +kernel
theorem dX3_init_37 : decode cX3_init 37 = .ok (.return_, 1) := by decide +kernel
theorem oX3_init : zok yX3_init 1 := by decide +kernel
theorem dX2_init_0 : decode cX2_init 0 = .ok (.aload_n 0, 1) := by decide +kernel
theorem dX2_init_1 : decode cX2_init 1 = .ok (.invokespecial 3, 3) := by decide +kernel
theorem dX2_init_4 : decode cX2_init 4 = .ok (.aload_n 0, 1) := by decide +kernel
theorem dX2_init_5 : decode cX2_init 5 = .ok (.bipush 6, 2) := by decide +kernel
theorem dX2_init_7 : decode cX2_init 7 = .ok (.anewarray 9, 3) := by decide +kernel
theorem dX2_init_10 : decode cX2_init 10 = .ok (.putfield 11, 3) := by decide +kernel
theorem dX2_init_13 : decode cX2_init 13 = .ok (.aload_n 0, 1) := by decide +kernel
theorem dX2_init_14 : decode cX2_init 14 = .ok (.iconst (-1), 1) := by decide +kernel
theorem dX2_init_15 : decode cX2_init 15 = .ok (.putfield 17, 3) := by decide +kernel
theorem dX2_init_18 : decode cX2_init 18 = .ok (.aload_n 0, 1) := by decide +kernel
theorem dX2_init_19 : decode cX2_init 19 = .ok (.iconst 3, 1) := by decide +kernel
theorem dX2_init_20 : decode cX2_init 20 = .ok (.newarray .int, 2) := by decide +kernel
theorem dX2_init_22 : decode cX2_init 22 = .ok (.putfield 21, 3) := by decide +kernel
theorem dX2_init_25 : decode cX2_init 25 = .ok (.aload_n 0, 1) := by decide +kernel
theorem dX2_init_26 : decode cX2_init 26 = .ok (.bipush 36, 2) := by decide +kernel
theorem dX2_init_28 : decode cX2_init 28 = .ok (.newarray .int, 2) := by decide +kernel
theorem dX2_init_30 : decode cX2_init 30 = .ok (.putfield 25, 3) := by decide +kernel
theorem dX2_init_33 : decode cX2_init 33 = .ok (.iconst 0, 1) := by decide +kernel
theorem dX2_init_34 : decode cX2_init 34 = .ok (.istore_n 1, 1) := by decide +kernel
theorem dX2_init_35 : decode cX2_init 35 = .ok (.iload_n 1, 1) := by decide +kernel
theorem dX2_init_36 : decode cX2_init 36 = .ok (.bipush 6, 2) := by decide +kernel
theorem dX2_init_38 : decode cX2_init 38 = .ok (.if_icmp .ge 23, 3) := by decide +kernel
theorem dX2_init_41 : decode cX2_init 41 = .ok (.aload_n 0, 1) := by decide +kernel
theorem dX2_init_42 : decode cX2_init 42 = .ok (.getfield 11, 3) := by decide +kernel
theorem dX2_init_45 : decode cX2_init 45 = .ok (.iload_n 1, 1) := by decide +kernel
theorem dX2_init_46 : decode cX2_init 46 = .ok (.new 9, 3) := by decide +kernel
theorem dX2_init_49 : decode cX2_init 49 = .ok (.dup, 1) := by decide +kernel
theorem dX2_init_50 : decode cX2_init 50 = .ok (.iload_n 1, 1) := by decide +kernel
theorem dX2_init_51 : decode cX2_init 51 = .ok (.invokespecial 28, 3) := by decide +kernel
theorem dX2_init_54 : decode cX2_init 54 = .ok (.aastore, 1) := by decide +kernel
theorem dX2_init_55 : decode cX2_init 55 = .ok (.iinc 1 1, 3) := by decide +kernel
theorem dX2_init_58 : decode cX2_init 58 = .ok (.goto (-23), 3) := by decide +kernel
theorem dX2_init_61 : decode cX2_init 61 = .ok (.return_, 1) := by decide +kernel
theorem oX2_init : zok yX2_init 0 := by decide +kernel
theorem dX7_init_0 : decode cX7_init 0 = .ok (.aload_n 0, 1) := by decide +kernel
theorem dX7_init_1 : decode cX7_init 1 = .ok (.invokespecial 3, 3) := by decide +kernel
theorem dX7_init_4 : decode cX7_init 4 = .ok (.aload_n 0, 1) := by decide +kernel
theorem dX7_init_5 : decode cX7_init 5 = .ok (.new 9, 3) := by decide +kernel
theorem dX7_init_8 : decode cX7_init 8 = .ok (.dup, 1) := by decide +kernel
theorem dX7_init_9 : decode cX7_init 9 = .ok (.invokespecial 11, 3) := by decide +kernel
theorem dX7_init_12 : decode cX7_init 12 = .ok (.putfield 12, 3) := by decide +kernel
theorem dX7_init_15 : decode cX7_init 15 = .ok (.aload_n 0, 1) := by decide +kernel
theorem dX7_init_16 : decode cX7_init 16 = .ok (.new 9, 3) := by decide +kernel
theorem dX7_init_19 : decode cX7_init 19 = .ok (.dup, 1) := by decide +kernel
theorem dX7_init_20 : decode cX7_init 20 = .ok (.invokespecial 11, 3) := by decide +kernel
theorem dX7_init_23 : decode cX7_init 23 = .ok (.putfield 18, 3) := by decide +kernel
theorem dX7_init_26 : decode cX7_init 26 = .ok (.aload_n 0, 1) := by decide +kernel
theorem dX7_init_27 : decode cX7_init 27 = .ok (.new 9, 3) := by decide +kernel
theorem dX7_init_30 : decode cX7_init 30 = .ok (.dup, 1) := by decide +kernel
theorem dX7_init_31 : decode cX7_init 31 = .ok (.invokespecial 11, 3) := by decide +kernel
theorem dX7_init_34 : decode cX7_init 34 = .ok (.putfield 21, 3) := by decide +kernel
theorem dX7_init_37 : decode cX7_init 37 = .ok (.aload_n 0, 1) := by decide +kernel
theorem dX7_init_38 : decode cX7_init 38 = .ok (.new 24, 3) := by decide +kernel
theorem dX7_init_41 : decode cX7_init 41 = .ok (.dup, 1) := by decide +kernel
theorem dX7_init_42 : decode cX7_init 42 = .ok (.invokespecial 26, 3) := by decide +kernel
theorem dX7_init_45 : decode cX7_init 45 = .ok (.putfield 27, 3) := by decide +kernel
theorem dX7_init_48 : decode cX7_init 48 = .ok (.aload_n 0, 1) := by decide +kernel
theorem dX7_init_49 : decode cX7_init 49 = .ok (.bipush 6, 2) := by decide +kernel
theorem dX7_init_51 : decode cX7_init 51 = .ok (.anewarray 31, 3) := by decide +kernel
theorem dX7_init_54 : decode cX7_init 54 = .ok (.putfield 33, 3) := by decide +kernel
theorem dX7_init_57 : decode cX7_init 57 = .ok (.aload_n 0, 1) := by decide +kernel
theorem dX7_init_58 : decode cX7_init 58 = .ok (.new 31, 3) := by decide +kernel
theorem dX7_init_61 : decode cX7_init 61 = .ok (.dup, 1) := by decide +kernel
theorem dX7_init_62 : decode cX7_init 62 = .ok (.invokespecial 37, 3) := by decide +kernel
theorem dX7_init_65 : decode cX7_init 65 = .ok (.putfield 38, 3) := by decide +kernel
theorem dX7_init_68 : decode cX7_init 68 = .ok (.aload_n 0, 1) := by decide +kernel
theorem dX7_init_69 : decode cX7_init 69 = .ok (.new 42, 3) := by decide +kernel
theorem dX7_init_72 : decode cX7_init 72 = .ok (.dup, 1) := by decide +kernel
theorem dX7_init_73 : decode cX7_init 73 = .ok (.invokespecial 44, 3) := by decide +kernel
theorem dX7_init_76 : decode cX7_init 76 = .ok (.putfield 45, 3) := by decide +kernel
theorem dX7_init_79 : decode cX7_init 79 = .ok (.aload_n 0, 1) := by decide +kernel
theorem dX7_init_80 : decode cX7_init 80 = .ok (.bipush 6, 2) := by decide +kernel
theorem dX7_init_82 : decode cX7_init 82 = .ok (.newarray .int, 2) := by decide +kernel
theorem dX7_init_84 : decode cX7_init 84 = .ok (.putfield 49, 3) := by decide +kernel
theorem dX7_init_87 : decode cX7_init 87 = .ok (.aload_n 0, 1) := by decide +kernel
theorem dX7_init_88 : decode cX7_init 88 = .ok (.iconst 5, 1) := by decide +kernel
theorem dX7_init_89 : decode cX7_init 89 = .ok (.newarray .int, 2) := by decide +kernel
theorem dX7_init_91 : decode cX7_init 91 = .ok (.putfield 53, 3) := by decide +kernel
theorem dX7_init_94 : decode cX7_init 94 = .ok (.aload_n 0, 1) := by decide +kernel
theorem dX7_init_95 : decode cX7_init 95 = .ok (.iconst 5, 1) := by decide +kernel
theorem dX7_init_96 : decode cX7_init 96 = .ok (.newarray .int, 2) := by decide +kernel
theorem dX7_init_98 : decode cX7_init 98 = .ok (.putfield 56, 3) := by decide +kernel
theorem dX7_init_101 : decode cX7_init 101 = .ok (.aload_n 0, 1) := by decide +kernel
theorem dX7_init_102 : decode cX7_init 102 = .ok (.new 59, 3) := by decide +kernel
theorem dX7_init_105 : decode cX7_init 105 = .ok (.dup, 1) := by decide +kernel
theorem dX7_init_106 : decode cX7_init 106 = .ok (.invokespecial 61, 3) := by decide +kernel
theorem dX7_init_109 : decode cX7_init 109 = .ok (.putfield 62, 3) := by decide +kernel
theorem dX7_init_112 : decode cX7_init 112 = .ok (.aload_n 0, 1) := by decide +kernel
theorem dX7_init_113 : decode cX7_init 113 = .ok (.new 66, 3) := by decide +kernel
theorem dX7_init_116 : decode cX7_init 116 = .ok (.dup, 1) := by decide +kernel
theorem dX7_init_117 : decode cX7_init 117 = .ok (.invokespecial 68, 3) := by decide +kernel
theorem dX7_init_120 : decode cX7_init 120 = .ok (.putfield 69, 3) := by decide +kernel
theorem dX7_init_123 : decode cX7_init 123 = .ok (.iconst 0, 1) := by decide +kernel
theorem dX7_init_124 : decode cX7_init 124 = .ok (.istore_n 1, 1) := by decide +kernel
theorem dX7_init_125 : decode cX7_init 125 = .ok (.iload_n 1, 1) := by decide +kernel
theorem dX7_init_126 : decode cX7_init 126 = .ok (.bipush 6, 2) := by decide +kernel
theorem dX7_init_128 : decode cX7_init 128 = .ok (.if_icmp .ge 22, 3) := by decide +kernel
theorem dX7_init_131 : decode cX7_init 131 = .ok (.aload_n 0, 1) := by decide +kernel
theorem dX7_init_132 : decode cX7_init 132 = .ok (.getfield 33, 3) := by decide +kernel
theorem dX7_init_135 : decode cX7_init 135 = .ok (.iload_n 1, 1) := by decide +kernel
theorem dX7_init_136 : decode cX7_init 136 = .ok (.new 31, 3) := by decide +kernel
theorem dX7_init_139 : decode cX7_init 139 = .ok (.dup, 1) := by decide +kernel
theorem dX7_init_140 : decode cX7_init 140 = .ok (.invokespecial 37, 3) := by decide +kernel
theorem dX7_init_143 : decode cX7_init 143 = .ok (.aastore, 1) := by decide +kernel
theorem dX7_init_144 : decode cX7_init 144 = .ok (.iinc 1 1, 3) := by decide +kernel
theorem dX7_init_147 : decode cX7_init 147 = .ok (.goto (-22), 3) := by decide +kernel
theorem dX7_init_150 : decode cX7_init 150 = .ok (.return_, 1) := by decide +kernel
theorem oX7_init : zok yX7_init 0 := by decide +kernel
theorem dX8_init_0 : decode cX8_init 0 = .ok (.aload_n 0, 1) := by decide +kernel
theorem dX8_init_1 : decode cX8_init 1 = .ok (.invokespecial 1, 3) := by decide +kernel
theorem dX8_init_4 : decode cX8_init 4 = .ok (.aload_n 0, 1) := by decide +kernel
theorem dX8_init_5 : decode cX8_init 5 = .ok (.iconst 0, 1) := by decide +kernel
theorem dX8_init_6 : decode cX8_init 6 = .ok (.putfield 7, 3) := by decide +kernel
theorem dX8_init_9 : decode cX8_init 9 = .ok (.aload_n 0, 1) := by decide +kernel
theorem dX8_init_10 : decode cX8_init 10 = .ok (.iconst 0, 1) := by decide +kernel
theorem dX8_init_11 : decode cX8_init 11 = .ok (.putfield 13, 3) := by decide +kernel
theorem dX8_init_14 : decode cX8_init 14 = .ok (.aload_n 0, 1) := by decide +kernel
theorem dX8_init_15 : decode cX8_init 15 = .ok (.bipush 6, 2) := by decide +kernel
theorem dX8_init_17 : decode cX8_init 17 = .ok (.newarray .int, 2) := by decide +kernel
theorem dX8_init_19 : decode cX8_init 19 = .ok (.putfield 16, 3) := by decide +kernel
theorem dX8_init_22 : decode cX8_init 22 = .ok (.aload_n 0, 1) := by decide +kernel
theorem dX8_init_23 : decode cX8_init 23 = .ok (.bipush 6, 2) := by decide +kernel
theorem dX8_init_25 : decode cX8_init 25 = .ok (.newarray .int, 2) := by decide +kernel
theorem dX8_init_27 : decode cX8_init 27 = .ok (.putfield 20, 3) := by decide +kernel
theorem dX8_init_30 : decode cX8_init 30 = .ok (.aload_n 0, 1) := by decide +kernel
theorem dX8_init_31 : decode cX8_init 31 = .ok (.bipush 6, 2) := by decide +kernel
theorem dX8_init_33 : decode cX8_init 33 = .ok (.newarray .int, 2) := by decide +kernel
theorem dX8_init_35 : decode cX8_init 35 = .ok (.putfield 23, 3) := by decide +kernel
theorem dX8_init_38 : decode cX8_init 38 = .ok (.aload_n 0, 1) := by decide +kernel
theorem dX8_init_39 : decode cX8_init 39 = .ok (.bipush 6, 2) := by decide +kernel
theorem dX8_init_41 : decode cX8_init 41 = .ok (.newarray .int, 2) := by decide +kernel
theorem dX8_init_43 : decode cX8_init 43 = .ok (.putfield 26, 3) := by decide +kernel
theorem dX8_init_46 : decode cX8_init 46 = .ok (.aload_n 0, 1) := by decide +kernel
theorem dX8_init_47 : decode cX8_init 47 = .ok (.bipush 18, 2) := by decide +kernel
theorem dX8_init_49 : decode cX8_init 49 = .ok (.newarray .int, 2) := by decide +kernel
theorem dX8_init_51 : decode cX8_init 51 = .ok (.putfield 29, 3) := by decide +kernel
theorem dX8_init_54 : decode cX8_init 54 = .ok (.aload_n 0, 1) := by decide +kernel
theorem dX8_init_55 : decode cX8_init 55 = .ok (.bipush 18, 2) := by decide +kernel
theorem dX8_init_57 : decode cX8_init 57 = .ok (.newarray .int, 2) := by decide +kernel
theorem dX8_init_59 : decode cX8_init 59 = .ok (.putfield 32, 3) := by decide +kernel
theorem dX8_init_62 : decode cX8_init 62 = .ok (.aload_n 0, 1) := by decide +kernel
theorem dX8_init_63 : decode cX8_init 63 = .ok (.bipush 18, 2) := by decide +kernel
theorem dX8_init_65 : decode cX8_init 65 = .ok (.newarray .int, 2) := by decide +kernel
theorem dX8_init_67 : decode cX8_init 67 = .ok (.putfield 35, 3) := by decide +kernel
theorem dX8_init_70 : decode cX8_init 70 = .ok (.aload_n 0, 1) := by decide +kernel
theorem dX8_init_71 : decode cX8_init 71 = .ok (.bipush 24, 2) := by decide +kernel
theorem dX8_init_73 : decode cX8_init 73 = .ok (.newarray .int, 2) := by decide +kernel
theorem dX8_init_75 : decode cX8_init 75 = .ok (.putfield 38, 3) := by decide +kernel
theorem dX8_init_78 : decode cX8_init 78 = .ok (.aload_n 0, 1) := by decide +kernel
theorem dX8_init_79 : decode cX8_init 79 = .ok (.iconst 0, 1) := by decide +kernel
theorem dX8_init_80 : decode cX8_init 80 = .ok (.putfield 41, 3) := by decide +kernel
theorem dX8_init_83 : decode cX8_init 83 = .ok (.aload_n 0, 1) := by decide +kernel
theorem dX8_init_84 : decode cX8_init 84 = .ok (.iconst (-1), 1) := by decide +kernel
theorem dX8_init_85 : decode cX8_init 85 = .ok (.putfield 44, 3) := by decide +kernel
theorem dX8_init_88 : decode cX8_init 88 = .ok (.aload_n 0, 1) := by decide +kernel
theorem dX8_init_89 : decode cX8_init 89 = .ok (.iconst 0, 1) := by decide +kernel
theorem dX8_init_90 : decode cX8_init 90 = .ok (.putfield 47, 3) := by decide +kernel
theorem dX8_init_93 : decode cX8_init 93 = .ok (.aload_n 0, 1) := by decide +kernel
theorem dX8_init_94 : decode cX8_init 94 = .ok (.iconst 0, 1) := by decide +kernel
theorem dX8_init_95 : decode cX8_init 95 = .ok (.putfield 50, 3) := by decide +kernel
theorem dX8_init_98 : decode cX8_init 98 = .ok (.aload_n 0, 1) := by decide +kernel
theorem dX8_init_99 : decode cX8_init 99 = .ok (.iconst 0, 1) := by decide +kernel
theorem dX8_init_100 : decode cX8_init 100 = .ok (.putfield 53, 3) := by decide +kernel
theorem dX8_init_103 : decode cX8_init 103 = .ok (.aload_n 0, 1) := by decide +kernel
theorem dX8_init_104 : decode cX8_init 104 = .ok (.bipush 100, 2) := by decide +kernel
theorem dX8_init_106 : decode cX8_init 106 = .ok (.newarray .int, 2) := by decide +kernel
theorem dX8_init_108 : decode cX8_init 108 = .ok (.putfield 56, 3) := by decide +kernel
theorem dX8_init_111 : decode cX8_init 111 = .ok (.aload_n 0, 1) := by decide +kernel
theorem dX8_init_112 : decode cX8_init 112 = .ok (.bipush 6, 2) := by decide +kernel
theorem dX8_init_114 : decode cX8_init 114 = .ok (.newarray .int, 2) := by decide +kernel
theorem dX8_init_116 : decode cX8_init 116 = .ok (.putfield 59, 3) := by decide +kernel
theorem dX8_init_119 : decode cX8_init 119 = .ok (.aload_n 0, 1) := by decide +kernel
theorem dX8_init_120 : decode cX8_init 120 = .ok (.bipush 60, 2) := by decide +kernel
theorem dX8_init_122 : decode cX8_init 122 = .ok (.newarray .int, 2) := by decide +kernel
theorem dX8_init_124 : decode cX8_init 124 = .ok (.putfield 62, 3) := by decide +kernel
theorem dX8_init_127 : decode cX8_init 127 = .ok (.aload_n 0, 1) := by decide +kernel
theorem dX8_init_128 : decode cX8_init 128 = .ok (.bipush 60, 2) := by decide +kernel
theorem dX8_init_130 : decode cX8_init 130 = .ok (.newarray .int, 2) := by decide +kernel
theorem dX8_init_132 : decode cX8_init 132 = .ok (.putfield 65, 3) := by decide +kernel
theorem dX8_init_135 : decode cX8_init 135 = .ok (.aload_n 0, 1) := by decide +kernel
theorem dX8_init_136 : decode cX8_init 136 = .ok (.bipush 60, 2) := by decide +kernel
theorem dX8_init_138 : decode cX8_init 138 = .ok (.newarray .int, 2) := by decide +kernel
theorem dX8_init_140 : decode cX8_init 140 = .ok (.putfield 68, 3) := by decide +kernel
theorem dX8_init_143 : decode cX8_init 143 = .ok (.aload_n 0, 1) := by decide +kernel
theorem dX8_init_144 : decode cX8_init 144 = .ok (.bipush 60, 2) := by decide +kernel
theorem dX8_init_146 : decode cX8_init 146 = .ok (.newarray .int, 2) := by decide +kernel
theorem dX8_init_148 : decode cX8_init 148 = .ok (.putfield 71, 3) := by decide +kernel
theorem dX8_init_151 : decode cX8_init 151 = .ok (.aload_n 0, 1) := by decide +kernel
theorem dX8_init_152 : decode cX8_init 152 = .ok (.sipush 600, 3) := by decide +kernel
theorem dX8_init_155 : decode cX8_init 155 = .ok (.newarray .int, 2) := by decide +kernel
theorem dX8_init_157 : decode cX8_init 157 = .ok (.putfield 74, 3) := by decide +kernel
theorem dX8_init_160 : decode cX8_init 160 = .ok (.aload_n 0, 1) := by decide +kernel
theorem dX8_init_161 : decode cX8_init 161 = .ok (.bipush 101, 2) := by decide +kernel
theorem dX8_init_163 : decode cX8_init 163 = .ok (.newarray .int, 2) := by decide +kernel
theorem dX8_init_165 : decode cX8_init 165 = .ok (.putfield 77, 3) := by decide +kernel
theorem dX8_init_168 : decode cX8_init 168 = .ok (.aload_n 0, 1) := by decide +kernel
theorem dX8_init_169 : decode cX8_init 169 = .ok (.iconst 0, 1) := by decide +kernel
theorem dX8_init_170 : decode cX8_init 170 = .ok (.putfield 80, 3) := by decide +kernel
theorem dX8_init_173 : decode cX8_init 173 = .ok (.aload_n 0, 1) := by decide +kernel
theorem dX8_init_174 : decode cX8_init 174 = .ok (.iconst 0, 1) := by decide +kernel
theorem dX8_init_175 : decode cX8_init 175 = .ok (.putfield 83, 3) := by decide +kernel
theorem dX8_init_178 : decode cX8_init 178 = .ok (.aload_n 0, 1) := by decide +kernel
theorem dX8_init_179 : decode cX8_init 179 = .ok (.iconst 0, 1) := by decide +kernel
theorem dX8_init_180 : decode cX8_init 180 = .ok (.putfield 86, 3) := by decide +kernel
theorem dX8_init_183 : decode cX8_init 183 = .ok (.aload_n 0, 1) := by decide +kernel
theorem dX8_init_184 : decode cX8_init 184 = .ok (.bipush 12, 2) := by decide +kernel
theorem dX8_init_186 : decode cX8_init 186 = .ok (.newarray .int, 2) := by decide +kernel
theorem dX8_init_188 : decode cX8_init 188 = .ok (.dup, 1) := by decide +kernel
theorem dX8_init_189 : decode cX8_init 189 = .ok (.iconst 0, 1) := by decide +kernel
theorem dX8_init_190 : decode cX8_init 190 = .ok (.bipush 111, 2) := by decide +kernel
theorem dX8_init_192 : decode cX8_init 192 = .ok (.iastore, 1) := by decide +kernel
theorem dX8_init_193 : decode cX8_init 193 = .ok (.dup, 1) := by decide +kernel
theorem dX8_init_194 : decode cX8_init 194 = .ok (.iconst 1, 1) := by decide +kernel
theorem dX8_init_195 : decode cX8_init 195 = .ok (.bipush 100, 2) := by decide +kernel
theorem dX8_init_197 : decode cX8_init 197 = .ok (.iastore, 1) := by decide +kernel
theorem dX8_init_198 : decode cX8_init 198 = .ok (.dup, 1) := by decide +kernel
theorem dX8_init_199 : decode cX8_init 199 = .ok (.iconst 2, 1) := by decide +kernel
theorem dX8_init_200 : decode cX8_init 200 = .ok (.bipush 100, 2) := by decide +kernel
theorem dX8_init_202 : decode cX8_init 202 = .ok (.iastore, 1) := by decide +kernel
theorem dX8_init_203 : decode cX8_init 203 = .ok (.dup, 1) := by decide +kernel
theorem dX8_init_204 : decode cX8_init 204 = .ok (.iconst 3, 1) := by decide +kernel
theorem dX8_init_205 : decode cX8_init 205 = .ok (.bipush 115, 2) := by decide +kernel
theorem dX8_init_207 : decode cX8_init 207 = .ok (.iastore, 1) := by decide +kernel
theorem dX8_init_208 : decode cX8_init 208 = .ok (.dup, 1) := by decide +kernel
theorem dX8_init_209 : decode cX8_init 209 = .ok (.iconst 4, 1) := by decide +kernel
theorem dX8_init_210 : decode cX8_init 210 = .ok (.bipush 117, 2) := by decide +kernel
theorem dX8_init_212 : decode cX8_init 212 = .ok (.iastore, 1) := by decide +kernel
theorem dX8_init_213 : decode cX8_init 213 = .ok (.dup, 1) := by decide +kernel
theorem dX8_init_214 : decode cX8_init 214 = .ok (.iconst 5, 1) := by decide +kernel
theorem dX8_init_215 : decode cX8_init 215 = .ok (.bipush 114, 2) := by decide +kernel
theorem dX8_init_217 : decode cX8_init 217 = .ok (.iastore, 1) := by decide +kernel
theorem dX8_init_218 : decode cX8_init 218 = .ok (.dup, 1) := by decide +kernel
theorem dX8_init_219 : decode cX8_init 219 = .ok (.bipush 6, 2) := by decide +kernel
theorem dX8_init_221 : decode cX8_init 221 = .ok (.bipush 101, 2) := by decide +kernel
theorem dX8_init_223 : decode cX8_init 223 = .ok (.iastore, 1) := by decide +kernel
theorem dX8_init_224 : decode cX8_init 224 = .ok (.dup, 1) := by decide +kernel
theorem dX8_init_225 : decode cX8_init 225 = .ok (.bipush 7, 2) := by decide +kernel
theorem dX8_init_227 : decode cX8_init 227 = .ok (.bipush 104, 2) := by decide +kernel
theorem dX8_init_229 : decode cX8_init 229 = .ok (.iastore, 1) := by decide +kernel
theorem dX8_init_230 : decode cX8_init 230 = .ok (.dup, 1) := by decide +kernel
theorem dX8_init_231 : decode cX8_init 231 = .ok (.bipush 8, 2) := by decide +kernel
theorem dX8_init_233 : decode cX8_init 233 = .ok (.bipush 97, 2) := by decide +kernel
theorem dX8_init_235 : decode cX8_init 235 = .ok (.iastore, 1) := by decide +kernel
theorem dX8_init_236 : decode cX8_init 236 = .ok (.dup, 1) := by decide +kernel
theorem dX8_init_237 : decode cX8_init 237 = .ok (.bipush 9, 2) := by decide +kernel
theorem dX8_init_239 : decode cX8_init 239 = .ok (.bipush 110, 2) := by decide +kernel
theorem dX8_init_241 : decode cX8_init 241 = .ok (.iastore, 1) := by decide +kernel
theorem dX8_init_242 : decode cX8_init 242 = .ok (.dup, 1) := by decide +kernel
theorem dX8_init_243 : decode cX8_init 243 = .ok (.bipush 10, 2) := by decide +kernel
theorem dX8_init_245 : decode cX8_init 245 = .ok (.bipush 100, 2) := by decide +kernel
theorem dX8_init_247 : decode cX8_init 247 = .ok (.iastore, 1) := by decide +kernel
theorem dX8_init_248 : decode cX8_init 248 = .ok (.dup, 1) := by decide +kernel
theorem dX8_init_249 : decode cX8_init 249 = .ok (.bipush 11, 2) := by decide +kernel
theorem dX8_init_251 : decode cX8_init 251 = .ok (.bipush 115, 2) := by decide +kernel
theorem dX8_init_253 : decode cX8_init 253 = .ok (.iastore, 1) := by decide +kernel
theorem dX8_init_254 : decode cX8_init 254 = .ok (.putfield 89, 3) := by decide +kernel
theorem dX8_init_257 : decode cX8_init 257 = .ok (.aload_n 0, 1) := by decide +kernel
theorem dX8_init_258 : decode cX8_init 258 = .ok (.bipush 100, 2) := by decide +kernel
theorem dX8_init_260 : decode cX8_init 260 = .ok (.newarray .boolean, 2) := by decide +kernel
theorem dX8_init_262 : decode cX8_init 262 = .ok (.putfield 92, 3) := by decide +kernel
theorem dX8_init_265 : decode cX8_init 265 = .ok (.aload_n 0, 1) := by decide +kernel
theorem dX8_init_266 : decode cX8_init 266 = .ok (.iconst 3, 1) := by decide +kernel
theorem dX8_init_267 : decode cX8_init 267 = .ok (.newarray .int, 2) := by decide +kernel
theorem dX8_init_269 : decode cX8_init 269 = .ok (.putfield 96, 3) := by decide +kernel
theorem dX8_init_272 : decode cX8_init 272 = .ok (.aload_n 0, 1) := by decide +kernel
theorem dX8_init_273 : decode cX8_init 273 = .ok (.bipush 6, 2) := by decide +kernel
theorem dX8_init_275 : decode cX8_init 275 = .ok (.newarray .int, 2) := by decide +kernel
theorem dX8_init_277 : decode cX8_init 277 = .ok (.putfield 99, 3) := by decide +kernel
theorem dX8_init_280 : decode cX8_init 280 = .ok (.aload_n 0, 1) := by decide +kernel
theorem dX8_init_281 : decode cX8_init 281 = .ok (.iconst (-1), 1) := by decide +kernel
theorem dX8_init_282 : decode cX8_init 282 = .ok (.putfield 102, 3) := by decide +kernel
theorem dX8_init_285 : decode cX8_init 285 = .ok (.aload_n 0, 1) := by decide +kernel
theorem dX8_init_286 : decode cX8_init 286 = .ok (.iconst 0, 1) := by decide +kernel
theorem dX8_init_287 : decode cX8_init 287 = .ok (.putfield 105, 3) := by decide +kernel
theorem dX8_init_290 : decode cX8_init 290 = .ok (.aload_n 0, 1) := by decide +kernel
theorem dX8_init_291 : decode cX8_init 291 = .ok (.iconst 0, 1) := by decide +kernel
theorem dX8_init_292 : decode cX8_init 292 = .ok (.putfield 108, 3) := by decide +kernel
theorem dX8_init_295 : decode cX8_init 295 = .ok (.aload_n 0, 1) := by decide +kernel
theorem dX8_init_296 : decode cX8_init 296 = .ok (.bipush 6, 2) := by decide +kernel
theorem dX8_init_298 : decode cX8_init 298 = .ok (.newarray .int, 2) := by decide +kernel
theorem dX8_init_300 : decode cX8_init 300 = .ok (.putfield 111, 3) := by decide +kernel
theorem dX8_init_303 : decode cX8_init 303 = .ok (.aload_n 0, 1) := by decide +kernel
theorem dX8_init_304 : decode cX8_init 304 = .ok (.iconst 4, 1) := by decide +kernel
theorem dX8_init_305 : decode cX8_init 305 = .ok (.newarray .int, 2) := by decide +kernel
theorem dX8_init_307 : decode cX8_init 307 = .ok (.putfield 114, 3) := by decide +kernel
theorem dX8_init_310 : decode cX8_init 310 = .ok (.aload_n 0, 1) := by decide +kernel
theorem dX8_init_311 : decode cX8_init 311 = .ok (.iconst 4, 1) := by decide +kernel
theorem dX8_init_312 : decode cX8_init 312 = .ok (.newarray .int, 2) := by decide +kernel
theorem dX8_init_314 : decode cX8_init 314 = .ok (.putfield 117, 3) := by decide +kernel
theorem dX8_init_317 : decode cX8_init 317 = .ok (.aload_n 0, 1) := by decide +kernel
theorem dX8_init_318 : decode cX8_init 318 = .ok (.iconst 3, 1) := by decide +kernel
theorem dX8_init_319 : decode cX8_init 319 = .ok (.newarray .int, 2) := by decide +kernel
theorem dX8_init_321 : decode cX8_init 321 = .ok (.putfield 120, 3) := by decide +kernel
theorem dX8_init_324 : decode cX8_init 324 = .ok (.aload_n 0, 1) := by decide +kernel
theorem dX8_init_325 : decode cX8_init 325 = .ok (.bipush 6, 2) := by decide +kernel
theorem dX8_init_327 : decode cX8_init 327 = .ok (.newarray .int, 2) := by decide +kernel
theorem dX8_init_329 : decode cX8_init 329 = .ok (.putfield 123, 3) := by decide +kernel
theorem dX8_init_332 : decode cX8_init 332 = .ok (.aload_n 0, 1) := by decide +kernel
theorem dX8_init_333 : decode cX8_init 333 = .ok (.iconst 0, 1) := by decide +kernel
theorem dX8_init_334 : decode cX8_init 334 = .ok (.putfield 126, 3) := by decide +kernel
theorem dX8_init_337 : decode cX8_init 337 = .ok (.aload_n 0, 1) := by decide +kernel
theorem dX8_init_338 : decode cX8_init 338 = .ok (.bipush 12, 2) := by decide +kernel
theorem dX8_init_340 : decode cX8_init 340 = .ok (.newarray .int, 2) := by decide +kernel
theorem dX8_init_342 : decode cX8_init 342 = .ok (.putfield 129, 3) := by decide +kernel
theorem dX8_init_345 : decode cX8_init 345 = .ok (.aload_n 0, 1) := by decide +kernel
theorem dX8_init_346 : decode cX8_init 346 = .ok (.bipush 12, 2) := by decide +kernel
theorem dX8_init_348 : decode cX8_init 348 = .ok (.newarray .int, 2) := by decide +kernel
theorem dX8_init_350 : decode cX8_init 350 = .ok (.putfield 132, 3) := by decide +kernel
theorem dX8_init_353 : decode cX8_init 353 = .ok (.aload_n 0, 1) := by decide +kernel
theorem dX8_init_354 : decode cX8_init 354 = .ok (.bipush 12, 2) := by decide +kernel
theorem dX8_init_356 : decode cX8_init 356 = .ok (.newarray .int, 2) := by decide +kernel
theorem dX8_init_358 : decode cX8_init 358 = .ok (.putfield 135, 3) := by decide +kernel
theorem dX8_init_361 : decode cX8_init 361 = .ok (.aload_n 0, 1) := by decide +kernel
theorem dX8_init_362 : decode cX8_init 362 = .ok (.iconst 0, 1) := by decide +kernel
theorem dX8_init_363 : decode cX8_init 363 = .ok (.putfield 138, 3) := by decide +kernel
theorem dX8_init_366 : decode cX8_init 366 = .ok (.aload_n 0, 1) := by decide +kernel
theorem dX8_init_367 : decode cX8_init 367 = .ok (.iconst (-1), 1) := by decide +kernel
theorem dX8_init_368 : decode cX8_init 368 = .ok (.putfield 142, 3) := by decide +kernel
theorem dX8_init_371 : decode cX8_init 371 = .ok (.aload_n 0, 1) := by decide +kernel
theorem dX8_init_372 : decode cX8_init 372 = .ok (.iconst 0, 1) := by decide +kernel
theorem dX8_init_373 : decode cX8_init 373 = .ok (.putfield 145, 3) := by decide +kernel
theorem dX8_init_376 : decode cX8_init 376 = .ok (.aload_n 0, 1) := by decide +kernel
theorem dX8_init_377 : decode cX8_init 377 = .ok (.iconst 0, 1) := by decide +kernel
theorem dX8_init_378 : decode cX8_init 378 = .ok (.putfield 148, 3) := by decide +kernel
theorem dX8_init_381 : decode cX8_init 381 = .ok (.aload_n 0, 1) := by decide +kernel
theorem dX8_init_382 : decode cX8_init 382 = .ok (.iconst 0, 1) := by decide +kernel
theorem dX8_init_383 : decode cX8_init 383 = .ok (.putfield 151, 3) := by decide +kernel
theorem dX8_init_386 : decode cX8_init 386 = .ok (.aload_n 0, 1) := by decide +kernel
theorem dX8_init_387 : decode cX8_init 387 = .ok (.bipush 6, 2) := by decide +kernel
theorem dX8_init_389 : decode cX8_init 389 = .ok (.newarray .int, 2) := by decide +kernel
theorem dX8_init_391 : decode cX8_init 391 = .ok (.putfield 154, 3) := by decide +kernel
theorem dX8_init_394 : decode cX8_init 394 = .ok (.aload_n 0, 1) := by decide +kernel
theorem dX8_init_395 : decode cX8_init 395 = .ok (.bipush 6, 2) := by decide +kernel
theorem dX8_init_397 : decode cX8_init 397 = .ok (.newarray .int, 2) := by decide +kernel
theorem dX8_init_399 : decode cX8_init 399 = .ok (.putfield 157, 3) := by decide +kernel
theorem dX8_init_402 : decode cX8_init 402 = .ok (.aload_n 0, 1) := by decide +kernel
theorem dX8_init_403 : decode cX8_init 403 = .ok (.bipush 6, 2) := by decide +kernel
theorem dX8_init_405 : decode cX8_init 405 = .ok (.newarray .int, 2) := by decide +kernel
theorem dX8_init_407 : decode cX8_init 407 = .ok (.putfield 160, 3) := by decide +kernel
theorem dX8_init_410 : decode cX8_init 410 = .ok (.aload_n 0, 1) := by decide +kernel
theorem dX8_init_411 : decode cX8_init 411 = .ok (.bipush 6, 2) := by decide +kernel
theorem dX8_init_413 : decode cX8_init 413 = .ok (.newarray .int, 2) := by decide +kernel
theorem dX8_init_415 : decode cX8_init 415 = .ok (.putfield 163, 3) := by decide +kernel
theorem dX8_init_418 : decode cX8_init 418 = .ok (.aload_n 0, 1) := by decide +kernel
theorem dX8_init_419 : decode cX8_init 419 = .ok (.bipush 18, 2) := by decide +kernel
theorem dX8_init_421 : decode cX8_init 421 = .ok (.newarray .int, 2) := by decide +kernel
theorem dX8_init_423 : decode cX8_init 423 = .ok (.putfield 166, 3) := by decide +kernel
theorem dX8_init_426 : decode cX8_init 426 = .ok (.aload_n 0, 1) := by decide +kernel
theorem dX8_init_427 : decode cX8_init 427 = .ok (.bipush 18, 2) := by decide +kernel
theorem dX8_init_429 : decode cX8_init 429 = .ok (.newarray .int, 2) := by decide +kernel
theorem dX8_init_431 : decode cX8_init 431 = .ok (.putfield 169, 3) := by decide +kernel
theorem dX8_init_434 : decode cX8_init 434 = .ok (.aload_n 0, 1) := by decide +kernel
theorem dX8_init_435 : decode cX8_init 435 = .ok (.bipush 18, 2) := by decide +kernel
theorem dX8_init_437 : decode cX8_init 437 = .ok (.newarray .int, 2) := by decide +kernel
theorem dX8_init_439 : decode cX8_init 439 = .ok (.putfield 172, 3) := by decide +kernel
theorem dX8_init_442 : decode cX8_init 442 = .ok (.aload_n 0, 1) := by decide +kernel
theorem dX8_init_443 : decode cX8_init 443 = .ok (.bipush 24, 2) := by decide +kernel
theorem dX8_init_445 : decode cX8_init 445 = .ok (.newarray .int, 2) := by decide +kernel
theorem dX8_init_447 : decode cX8_init 447 = .ok (.putfield 175, 3) := by decide +kernel
theorem dX8_init_450 : decode cX8_init 450 = .ok (.aload_n 0, 1) := by decide +kernel
theorem dX8_init_451 : decode cX8_init 451 = .ok (.iconst 3, 1) := by decide +kernel
theorem dX8_init_452 : decode cX8_init 452 = .ok (.newarray .int, 2) := by decide +kernel
theorem dX8_init_454 : decode cX8_init 454 = .ok (.putfield 178, 3) := by decide +kernel
theorem dX8_init_457 : decode cX8_init 457 = .ok (.aload_n 0, 1) := by decide +kernel
theorem dX8_init_458 : decode cX8_init 458 = .ok (.bipush 12, 2) := by decide +kernel
theorem dX8_init_460 : decode cX8_init 460 = .ok (.newarray .int, 2) := by decide +kernel
theorem dX8_init_462 : decode cX8_init 462 = .ok (.putfield 181, 3) := by decide +kernel
theorem dX8_init_465 : decode cX8_init 465 = .ok (.aload_n 0, 1) := by decide +kernel
theorem dX8_init_466 : decode cX8_init 466 = .ok (.bipush 12, 2) := by decide +kernel
theorem dX8_init_468 : decode cX8_init 468 = .ok (.newarray .int, 2) := by decide +kernel
theorem dX8_init_470 : decode cX8_init 470 = .ok (.putfield 184, 3) := by decide +kernel
theorem dX8_init_473 : decode cX8_init 473 = .ok (.aload_n 0, 1) := by decide +kernel
theorem dX8_init_474 : decode cX8_init 474 = .ok (.bipush 12, 2) := by decide +kernel
theorem dX8_init_476 : decode cX8_init 476 = .ok (.newarray .int, 2) := by decide +kernel
theorem dX8_init_478 : decode cX8_init 478 = .ok (.putfield 187, 3) := by decide +kernel
theorem dX8_init_481 : decode cX8_init 481 = .ok (.aload_n 0, 1) := by decide +kernel
theorem dX8_init_482 : decode cX8_init 482 = .ok (.iconst 0, 1) := by decide +kernel
theorem dX8_init_483 : decode cX8_init 483 = .ok (.putfield 190, 3) := by decide +kernel
theorem dX8_init_486 : decode cX8_init 486 = .ok (.aload_n 0, 1) := by decide +kernel
theorem dX8_init_487 : decode cX8_init 487 = .ok (.bipush 20, 2) := by decide +kernel
theorem dX8_init_489 : decode cX8_init 489 = .ok (.newarray .int, 2) := by decide +kernel
theorem dX8_init_491 : decode cX8_init 491 = .ok (.putfield 193, 3) := by decide +kernel
theorem dX8_init_494 : decode cX8_init 494 = .ok (.aload_n 0, 1) := by decide +kernel
theorem dX8_init_495 : decode cX8_init 495 = .ok (.bipush 6, 2) := by decide +kernel
theorem dX8_init_497 : decode cX8_init 497 = .ok (.newarray .int, 2) := by decide +kernel
theorem dX8_init_499 : decode cX8_init 499 = .ok (.dup, 1) := by decide +kernel
theorem dX8_init_500 : decode cX8_init 500 = .ok (.iconst 0, 1) := by decide +kernel
theorem dX8_init_501 : decode cX8_init 501 = .ok (.iconst (-1), 1) := by decide +kernel
theorem dX8_init_502 : decode cX8_init 502 = .ok (.iastore, 1) := by decide +kernel
theorem dX8_init_503 : decode cX8_init 503 = .ok (.dup, 1) := by decide +kernel
theorem dX8_init_504 : decode cX8_init 504 = .ok (.iconst 1, 1) := by decide +kernel
theorem dX8_init_505 : decode cX8_init 505 = .ok (.iconst (-1), 1) := by decide +kernel
theorem dX8_init_506 : decode cX8_init 506 = .ok (.iastore, 1) := by decide +kernel
theorem dX8_init_507 : decode cX8_init 507 = .ok (.dup, 1) := by decide +kernel
theorem dX8_init_508 : decode cX8_init 508 = .ok (.iconst 2, 1) := by decide +kernel
theorem dX8_init_509 : decode cX8_init 509 = .ok (.iconst (-1), 1) := by decide +kernel
theorem dX8_init_510 : decode cX8_init 510 = .ok (.iastore, 1) := by decide +kernel
theorem dX8_init_511 : decode cX8_init 511 = .ok (.dup, 1) := by decide +kernel
theorem dX8_init_512 : decode cX8_init 512 = .ok (.iconst 3, 1) := by decide +kernel
theorem dX8_init_513 : decode cX8_init 513 = .ok (.iconst (-1), 1) := by decide +kernel
theorem dX8_init_514 : decode cX8_init 514 = .ok (.iastore, 1) := by decide +kernel
theorem dX8_init_515 : decode cX8_init 515 = .ok (.dup, 1) := by decide +kernel
theorem dX8_init_516 : decode cX8_init 516 = .ok (.iconst 4, 1) := by decide +kernel
theorem dX8_init_517 : decode cX8_init 517 = .ok (.iconst (-1), 1) := by decide +kernel
theorem dX8_init_518 : decode cX8_init 518 = .ok (.iastore, 1) := by decide +kernel
theorem dX8_init_519 : decode cX8_init 519 = .ok (.dup, 1) := by decide +kernel
theorem dX8_init_520 : decode cX8_init 520 = .ok (.iconst 5, 1) := by decide +kernel
theorem dX8_init_521 : decode cX8_init 521 = .ok (.iconst (-1), 1) := by decide +kernel
theorem dX8_init_522 : decode cX8_init 522 = .ok (.iastore, 1) := by decide +kernel
theorem dX8_init_523 : decode cX8_init 523 = .ok (.putfield 196, 3) := by decide +kernel
theorem dX8_init_526 : decode cX8_init 526 = .ok (.aload_n 0, 1) := by decide +kernel
theorem dX8_init_527 : decode cX8_init 527 = .ok (.bipush 6, 2) := by decide +kernel
theorem dX8_init_529 : decode cX8_init 529 = .ok (.newarray .int, 2) := by decide +kernel
theorem dX8_init_531 : decode cX8_init 531 = .ok (.putfield 199, 3) := by decide +kernel
theorem dX8_init_534 : decode cX8_init 534 = .ok (.aload_n 0, 1) := by decide +kernel
theorem dX8_init_535 : decode cX8_init 535 = .ok (.sipush 360, 3) := by decide +kernel
theorem dX8_init_538 : decode cX8_init 538 = .ok (.newarray .long, 2) := by decide +kernel
theorem dX8_init_540 : decode cX8_init 540 = .ok (.putfield 202, 3) := by decide +kernel
theorem dX8_init_543 : decode cX8_init 543 = .ok (.aload_n 0, 1) := by decide +kernel
theorem dX8_init_544 : decode cX8_init 544 = .ok (.bipush 60, 2) := by decide +kernel
theorem dX8_init_546 : decode cX8_init 546 = .ok (.newarray .long, 2) := by decide +kernel
theorem dX8_init_548 : decode cX8_init 548 = .ok (.putfield 206, 3) := by decide +kernel
theorem dX8_init_551 : decode cX8_init 551 = .ok (.return_, 1) := by decide +kernel
theorem oX8_init : zok yX8_init 0 := by decide +kernel
theorem zw22 : (Jvm.Cond.methodLink "TwoTrue" (3 : Nat) ({ cls := "java/lang/Object", name := "<init>", desc := "()V" } : Jvm.MethodName)) ∈ zgw := zgm 87 (by decide +kernel) rfl
theorem zw23 : (Jvm.Cond.instanceMethod ({ cls := "java/lang/Object", name := "<init>", desc := "()V" } : Jvm.MethodName)) ∈ zgw := zgm 88 (by decide +kernel) rfl
theorem zw24 : (Jvm.Cond.code ({ cls := "java/lang/Object", name := "<init>", desc := "()V" } : Jvm.MethodName) object_method_1_code (1 : Nat) (Option.none : Option Jvm.ClassFile.FieldType)) ∈ zgw := zgm 89 (by decide +kernel) rfl
theorem zw25 : (Jvm.Cond.classLink "TwoTrue" (9 : Nat) "TwoTrue$Party") ∈ zgw := zgm 90 (by decide +kernel) rfl
theorem zw26 : (Jvm.Cond.instantiable "TwoTrue$Party" (7 : Nat)) ∈ zgw := zgm 91 (by decide +kernel) rfl
theorem zw27 : (Jvm.Cond.methodLink "TwoTrue" (11 : Nat) ({ cls := "TwoTrue$Party", name := "<init>", desc := "()V" } : Jvm.MethodName)) ∈ zgw := zgm 92 (by decide +kernel) rfl
theorem zw28 : (Jvm.Cond.instanceMethod ({ cls := "TwoTrue$Party", name := "<init>", desc := "()V" } : Jvm.MethodName)) ∈ zgw := zgm 93 (by decide +kernel) rfl
theorem zw29 : (Jvm.Cond.code ({ cls := "TwoTrue$Party", name := "<init>", desc := "()V" } : Jvm.MethodName) prog_4_method_1_code (2 : Nat) (Option.none : Option Jvm.ClassFile.FieldType)) ∈ zgw := zgm 94 (by decide +kernel) rfl
theorem zw30 : (Jvm.Cond.methodLink "TwoTrue$Party" (3 : Nat) ({ cls := "java/lang/Object", name := "<init>", desc := "()V" } : Jvm.MethodName)) ∈ zgw := zgm 95 (by decide +kernel) rfl
theorem zw31 : (Jvm.Cond.classLink "TwoTrue$Party" (9 : Nat) "TwoTrue$Person") ∈ zgw := zgm 96 (by decide +kernel) rfl
theorem zw33 : (Jvm.Cond.instantiable "TwoTrue$Person" (9 : Nat)) ∈ zgw := zgm 98 (by decide +kernel) rfl
theorem zw34 : (Jvm.Cond.methodLink "TwoTrue$Party" (28 : Nat) ({ cls := "TwoTrue$Person", name := "<init>", desc := "(I)V" } : Jvm.MethodName)) ∈ zgw := zgm 99 (by decide +kernel) rfl
theorem zw35 : (Jvm.Cond.instanceMethod ({ cls := "TwoTrue$Person", name := "<init>", desc := "(I)V" } : Jvm.MethodName)) ∈ zgw := zgm 100 (by decide +kernel) rfl
theorem zw36 : (Jvm.Cond.code ({ cls := "TwoTrue$Person", name := "<init>", desc := "(I)V" } : Jvm.MethodName) prog_5_method_1_code (2 : Nat) (Option.none : Option Jvm.ClassFile.FieldType)) ∈ zgw := zgm 101 (by decide +kernel) rfl
theorem zw37 : (Jvm.Cond.methodLink "TwoTrue$Person" (3 : Nat) ({ cls := "java/lang/Object", name := "<init>", desc := "()V" } : Jvm.MethodName)) ∈ zgw := zgm 102 (by decide +kernel) rfl
theorem zw38 : (Jvm.Cond.fieldLink "TwoTrue$Person" (24 : Nat) "TwoTrue$Person" "number" "I") ∈ zgw := zgm 103 (by decide +kernel) rfl
theorem zw87 : (Jvm.Cond.arrayClass Jvm.ClassFile.FieldType.int) ∈ zgw := zgm 152 (by decide +kernel) rfl
theorem zw120 : (Jvm.Cond.classLink "TwoTrue" (24 : Nat) "TwoTrue$Text") ∈ zgw := zgm 185 (by decide +kernel) rfl
theorem zw121 : (Jvm.Cond.instantiable "TwoTrue$Text" (4 : Nat)) ∈ zgw := zgm 186 (by decide +kernel) rfl
theorem zw123 : (Jvm.Cond.instanceMethod ({ cls := "TwoTrue$Text", name := "<init>", desc := "()V" } : Jvm.MethodName)) ∈ zgw := zgm 188 (by decide +kernel) rfl
theorem zw124 : (Jvm.Cond.code ({ cls := "TwoTrue$Text", name := "<init>", desc := "()V" } : Jvm.MethodName) prog_8_method_1_code (1 : Nat) (Option.none : Option Jvm.ClassFile.FieldType)) ∈ zgw := zgm 189 (by decide +kernel) rfl
theorem zw125 : (Jvm.Cond.methodLink "TwoTrue$Text" (3 : Nat) ({ cls := "java/lang/Object", name := "<init>", desc := "()V" } : Jvm.MethodName)) ∈ zgw := zgm 190 (by decide +kernel) rfl
theorem zw140 : (Jvm.Cond.classLink "TwoTrue" (31 : Nat) "TwoTrue$Evening") ∈ zgw := zgm 205 (by decide +kernel) rfl
theorem zw142 : (Jvm.Cond.instantiable "TwoTrue$Evening" (4 : Nat)) ∈ zgw := zgm 207 (by decide +kernel) rfl
theorem zw144 : (Jvm.Cond.instanceMethod ({ cls := "TwoTrue$Evening", name := "<init>", desc := "()V" } : Jvm.MethodName)) ∈ zgw := zgm 209 (by decide +kernel) rfl
theorem zw145 : (Jvm.Cond.code ({ cls := "TwoTrue$Evening", name := "<init>", desc := "()V" } : Jvm.MethodName) prog_3_method_1_code (1 : Nat) (Option.none : Option Jvm.ClassFile.FieldType)) ∈ zgw := zgm 210 (by decide +kernel) rfl
theorem zw146 : (Jvm.Cond.methodLink "TwoTrue$Evening" (3 : Nat) ({ cls := "java/lang/Object", name := "<init>", desc := "()V" } : Jvm.MethodName)) ∈ zgw := zgm 211 (by decide +kernel) rfl
theorem zw163 : (Jvm.Cond.classLink "TwoTrue" (42 : Nat) "TwoTrue$Play") ∈ zgw := zgm 228 (by decide +kernel) rfl
theorem zw164 : (Jvm.Cond.instantiable "TwoTrue$Play" (7 : Nat)) ∈ zgw := zgm 229 (by decide +kernel) rfl
theorem zw166 : (Jvm.Cond.instanceMethod ({ cls := "TwoTrue$Play", name := "<init>", desc := "()V" } : Jvm.MethodName)) ∈ zgw := zgm 231 (by decide +kernel) rfl
theorem zw167 : (Jvm.Cond.code ({ cls := "TwoTrue$Play", name := "<init>", desc := "()V" } : Jvm.MethodName) prog_6_method_1_code (1 : Nat) (Option.none : Option Jvm.ClassFile.FieldType)) ∈ zgw := zgm 232 (by decide +kernel) rfl
theorem zw168 : (Jvm.Cond.methodLink "TwoTrue$Play" (3 : Nat) ({ cls := "java/lang/Object", name := "<init>", desc := "()V" } : Jvm.MethodName)) ∈ zgw := zgm 233 (by decide +kernel) rfl
theorem zw195 : (Jvm.Cond.arrayClass Jvm.ClassFile.FieldType.boolean) ∈ zgw := zgm 260 (by decide +kernel) rfl
theorem zw196 : (Jvm.Cond.classLink "TwoTrue" (59 : Nat) "TwoTrue$Acts") ∈ zgw := zgm 261 (by decide +kernel) rfl
theorem zw197 : (Jvm.Cond.instantiable "TwoTrue$Acts" (2 : Nat)) ∈ zgw := zgm 262 (by decide +kernel) rfl
theorem zw199 : (Jvm.Cond.instanceMethod ({ cls := "TwoTrue$Acts", name := "<init>", desc := "()V" } : Jvm.MethodName)) ∈ zgw := zgm 264 (by decide +kernel) rfl
theorem zw200 : (Jvm.Cond.code ({ cls := "TwoTrue$Acts", name := "<init>", desc := "()V" } : Jvm.MethodName) prog_2_method_1_code (1 : Nat) (Option.none : Option Jvm.ClassFile.FieldType)) ∈ zgw := zgm 265 (by decide +kernel) rfl
theorem zw201 : (Jvm.Cond.methodLink "TwoTrue$Acts" (3 : Nat) ({ cls := "java/lang/Object", name := "<init>", desc := "()V" } : Jvm.MethodName)) ∈ zgw := zgm 266 (by decide +kernel) rfl
theorem zw211 : (Jvm.Cond.classLink "TwoTrue" (66 : Nat) "TwoTrue$Tapes") ∈ zgw := zgm 276 (by decide +kernel) rfl
theorem zw212 : (Jvm.Cond.instantiable "TwoTrue$Tapes" (3 : Nat)) ∈ zgw := zgm 277 (by decide +kernel) rfl
theorem zw213 : (Jvm.Cond.methodLink "TwoTrue" (68 : Nat) ({ cls := "TwoTrue$Tapes", name := "<init>", desc := "()V" } : Jvm.MethodName)) ∈ zgw := zgm 278 (by decide +kernel) rfl
theorem zw214 : (Jvm.Cond.instanceMethod ({ cls := "TwoTrue$Tapes", name := "<init>", desc := "()V" } : Jvm.MethodName)) ∈ zgw := zgm 279 (by decide +kernel) rfl
theorem zw215 : (Jvm.Cond.code ({ cls := "TwoTrue$Tapes", name := "<init>", desc := "()V" } : Jvm.MethodName) prog_7_method_1_code (2 : Nat) (Option.none : Option Jvm.ClassFile.FieldType)) ∈ zgw := zgm 280 (by decide +kernel) rfl
theorem zw216 : (Jvm.Cond.methodLink "TwoTrue$Tapes" (1 : Nat) ({ cls := "java/lang/Object", name := "<init>", desc := "()V" } : Jvm.MethodName)) ∈ zgw := zgm 281 (by decide +kernel) rfl
theorem zw229 : (Jvm.Cond.arrayClass Jvm.ClassFile.FieldType.long) ∈ zgw := zgm 294 (by decide +kernel) rfl
theorem zw765 : (Jvm.Cond.methodLink "TwoTrueModel" (1 : Nat) ({ cls := "java/lang/Object", name := "<init>", desc := "()V" } : Jvm.MethodName)) ∈ zgw := zgm 830 (by decide +kernel) rfl

def bT_init (M : zM) : zM := znm (zclr M 11 0) fun M1 => znm (zset M1 10 0 0 (1 : Int32)) fun M2 => M2
def bE_init (M : zM) (i : Nat) : zM := znm (zclr M 14 i) fun M1 => znm (zset M1 13 i 0 (1 : Int32)) fun M2 => znm (zclr M2 15 i) fun M3 => znm (zset M3 13 i 2 (1 : Int32)) fun M4 => znm (zset M4 13 i 3 (10 : Int32)) fun M5 => M5
def bY_init (M : zM) : zM := znm (zclr M 17 0) fun M1 => znm (zset M1 16 0 0 (1 : Int32)) fun M2 => znm (zclr M2 18 0) fun M3 => znm (zset M3 16 0 1 (1 : Int32)) fun M4 => znm (zclr M4 19 0) fun M5 => znm (zset M5 16 0 2 (1 : Int32)) fun M6 => znm (zclr M6 20 0) fun M7 => znm (zset M7 16 0 3 (1 : Int32)) fun M8 => znm (zclr M8 21 0) fun M9 => znm (zset M9 16 0 4 (1 : Int32)) fun M10 => M10
def bA_init (M : zM) : zM := znm (zclr M 26 0) fun M1 => znm (zset M1 25 0 0 (1 : Int32)) fun M2 => M2
def bK_init (M : zM) : zM := znm (zclr M 28 0) fun M1 => znm (zset M1 27 0 0 (1 : Int32)) fun M2 => znm (zclr M2 29 0) fun M3 => znm (zset M3 27 0 1 (1 : Int32)) fun M4 => znm (zclr M4 30 0) fun M5 => znm (zset M5 27 0 2 (1 : Int32)) fun M6 => znm (zset M6 28 0 0 (-1 : Int32)) fun M7 => znm (zset M7 28 0 1 (-1 : Int32)) fun M8 => znm (zset M8 28 0 2 (-1 : Int32)) fun M9 => znm (zset M9 28 0 3 (-1 : Int32)) fun M10 => znm (zset M10 28 0 4 (-1 : Int32)) fun M11 => znm (zset M11 28 0 5 (-1 : Int32)) fun M12 => M12
def bN_init (M : zM) (i : Nat) (a0 : Int32) : zM := znm (zclr M 3 i) fun M1 => znm (zset M1 2 i 5 (1 : Int32)) fun M2 => znm (zclr M2 4 i) fun M3 => znm (zset M3 2 i 6 (1 : Int32)) fun M4 => znm (zclr M4 5 i) fun M5 => znm (zset M5 2 i 7 (1 : Int32)) fun M6 => znm (zclr M6 6 i) fun M7 => znm (zset M7 2 i 8 (1 : Int32)) fun M8 => znm (zset M8 2 i 0 a0) fun M9 => M9
def bP_init (M : zM) (i : Nat) : zM := znm (zclr M 7 i) fun M1 => znm (zset M1 1 i 0 (1 : Int32)) fun M2 => znm (zset M2 1 i 3 (-1 : Int32)) fun M3 => znm (zclr M3 8 i) fun M4 => znm (zset M4 1 i 4 (1 : Int32)) fun M5 => znm (zclr M5 9 i) fun M6 => znm (zset M6 1 i 5 (1 : Int32)) fun M7 => znm (zclr M7 2 (6 * i + 0)) fun M8 => znm (bN_init M8 (6 * i + 0) (0 : Int32)) fun M9 => znm (zset M9 7 i 0 1) fun M10 => znm (zclr M10 2 (6 * i + 1)) fun M11 => znm (bN_init M11 (6 * i + 1) (1 : Int32)) fun M12 => znm (zset M12 7 i 1 1) fun M13 => znm (zclr M13 2 (6 * i + 2)) fun M14 => znm (bN_init M14 (6 * i + 2) (2 : Int32)) fun M15 => znm (zset M15 7 i 2 1) fun M16 => znm (zclr M16 2 (6 * i + 3)) fun M17 => znm (bN_init M17 (6 * i + 3) (3 : Int32)) fun M18 => znm (zset M18 7 i 3 1) fun M19 => znm (zclr M19 2 (6 * i + 4)) fun M20 => znm (bN_init M20 (6 * i + 4) (4 : Int32)) fun M21 => znm (zset M21 7 i 4 1) fun M22 => znm (zclr M22 2 (6 * i + 5)) fun M23 => znm (bN_init M23 (6 * i + 5) (5 : Int32)) fun M24 => znm (zset M24 7 i 5 1) fun M25 => M25
set_option maxHeartbeats 4000000 in
set_option maxRecDepth 100000 in
theorem bP_init_ne (M : zM) (i k j : Nat) (hk : k = 0 ∨ 10 ≤ k) : (bP_init M i).1 k j = M.1 k j := by
  have h : k ≠ 1 ∧ k ≠ 2 ∧ k ≠ 3 ∧ k ≠ 4 ∧ k ≠ 5 ∧ k ≠ 6 ∧ k ≠ 7 ∧ k ≠ 8 ∧ k ≠ 9 := by omega
  obtain ⟨h1, h2, h3, h4, h5, h6, h7, h8, h9⟩ := h
  funext c
  simp [bP_init, bN_init, znm, zset, zclr, h1, h2, h3, h4, h5, h6, h7, h8, h9]
def bG_init (M : zM) : zM := znm (zclr M 1 0) fun M1 => znm (bP_init M1 0) fun M2 => znm (zset M2 0 0 0 (1 : Int32)) fun M3 => znm (zclr M3 1 1) fun M4 => znm (bP_init M4 1) fun M5 => znm (zset M5 0 0 1 (1 : Int32)) fun M6 => znm (zclr M6 1 2) fun M7 => znm (bP_init M7 2) fun M8 => znm (zset M8 0 0 2 (1 : Int32)) fun M9 => znm (zclr M9 10 0) fun M10 => znm (bT_init M10) fun M11 => znm (zset M11 0 0 4 (1 : Int32)) fun M12 => znm (zclr M12 12 0) fun M13 => znm (zset M13 0 0 5 (1 : Int32)) fun M14 => znm (zclr M14 13 6) fun M15 => znm (bE_init M15 6) fun M16 => znm (zset M16 0 0 6 (1 : Int32)) fun M17 => znm (zclr M17 16 0) fun M18 => znm (bY_init M18) fun M19 => znm (zset M19 0 0 8 (1 : Int32)) fun M20 => znm (zclr M20 22 0) fun M21 => znm (zset M21 0 0 9 (1 : Int32)) fun M22 => znm (zclr M22 23 0) fun M23 => znm (zset M23 0 0 10 (1 : Int32)) fun M24 => znm (zclr M24 24 0) fun M25 => znm (zset M25 0 0 11 (1 : Int32)) fun M26 => znm (zclr M26 25 0) fun M27 => znm (bA_init M27) fun M28 => znm (zset M28 0 0 12 (1 : Int32)) fun M29 => znm (zclr M29 27 0) fun M30 => znm (bK_init M30) fun M31 => znm (zset M31 0 0 13 (1 : Int32)) fun M32 => znm (zclr M32 13 0) fun M33 => znm (bE_init M33 0) fun M34 => znm (zset M34 12 0 0 1) fun M35 => znm (zclr M35 13 1) fun M36 => znm (bE_init M36 1) fun M37 => znm (zset M37 12 0 1 1) fun M38 => znm (zclr M38 13 2) fun M39 => znm (bE_init M39 2) fun M40 => znm (zset M40 12 0 2 1) fun M41 => znm (zclr M41 13 3) fun M42 => znm (bE_init M42 3) fun M43 => znm (zset M43 12 0 3 1) fun M44 => znm (zclr M44 13 4) fun M45 => znm (bE_init M45 4) fun M46 => znm (zset M46 12 0 4 1) fun M47 => znm (zclr M47 13 5) fun M48 => znm (bE_init M48 5) fun M49 => znm (zset M49 12 0 5 1) fun M50 => M50
def bM_init (M : zM) : zM := znm (zset M 40 0 0 (0 : Int32)) fun M1 => znm (zset M1 40 0 1 (0 : Int32)) fun M2 => znm (zclr M2 41 0) fun M3 => znm (zset M3 40 0 2 (1 : Int32)) fun M4 => znm (zclr M4 42 0) fun M5 => znm (zset M5 40 0 3 (1 : Int32)) fun M6 => znm (zclr M6 43 0) fun M7 => znm (zset M7 40 0 4 (1 : Int32)) fun M8 => znm (zclr M8 44 0) fun M9 => znm (zset M9 40 0 5 (1 : Int32)) fun M10 => znm (zclr M10 45 0) fun M11 => znm (zset M11 40 0 6 (1 : Int32)) fun M12 => znm (zclr M12 46 0) fun M13 => znm (zset M13 40 0 7 (1 : Int32)) fun M14 => znm (zclr M14 47 0) fun M15 => znm (zset M15 40 0 8 (1 : Int32)) fun M16 => znm (zclr M16 48 0) fun M17 => znm (zset M17 40 0 9 (1 : Int32)) fun M18 => znm (zset M18 40 0 10 (0 : Int32)) fun M19 => znm (zset M19 40 0 11 (-1 : Int32)) fun M20 => znm (zset M20 40 0 12 (0 : Int32)) fun M21 => znm (zset M21 40 0 13 (0 : Int32)) fun M22 => znm (zset M22 40 0 14 (0 : Int32)) fun M23 => znm (zclr M23 49 0) fun M24 => znm (zset M24 40 0 15 (1 : Int32)) fun M25 => znm (zclr M25 50 0) fun M26 => znm (zset M26 40 0 16 (1 : Int32)) fun M27 => znm (zclr M27 51 0) fun M28 => znm (zset M28 40 0 17 (1 : Int32)) fun M29 => znm (zclr M29 52 0) fun M30 => znm (zset M30 40 0 18 (1 : Int32)) fun M31 => znm (zclr M31 53 0) fun M32 => znm (zset M32 40 0 19 (1 : Int32)) fun M33 => znm (zclr M33 54 0) fun M34 => znm (zset M34 40 0 20 (1 : Int32)) fun M35 => znm (zclr M35 55 0) fun M36 => znm (zset M36 40 0 21 (1 : Int32)) fun M37 => znm (zclr M37 56 0) fun M38 => znm (zset M38 40 0 22 (1 : Int32)) fun M39 => znm (zset M39 40 0 23 (0 : Int32)) fun M40 => znm (zset M40 40 0 24 (0 : Int32)) fun M41 => znm (zset M41 40 0 25 (0 : Int32)) fun M42 => znm (zclr M42 57 0) fun M43 => znm (zset M43 57 0 0 (111 : Int32)) fun M44 => znm (zset M44 57 0 1 (100 : Int32)) fun M45 => znm (zset M45 57 0 2 (100 : Int32)) fun M46 => znm (zset M46 57 0 3 (115 : Int32)) fun M47 => znm (zset M47 57 0 4 (117 : Int32)) fun M48 => znm (zset M48 57 0 5 (114 : Int32)) fun M49 => znm (zset M49 57 0 6 (101 : Int32)) fun M50 => znm (zset M50 57 0 7 (104 : Int32)) fun M51 => znm (zset M51 57 0 8 (97 : Int32)) fun M52 => znm (zset M52 57 0 9 (110 : Int32)) fun M53 => znm (zset M53 57 0 10 (100 : Int32)) fun M54 => znm (zset M54 57 0 11 (115 : Int32)) fun M55 => znm (zset M55 40 0 26 (1 : Int32)) fun M56 => znm (zclr M56 58 0) fun M57 => znm (zset M57 40 0 27 (1 : Int32)) fun M58 => znm (zclr M58 59 0) fun M59 => znm (zset M59 40 0 28 (1 : Int32)) fun M60 => znm (zclr M60 60 0) fun M61 => znm (zset M61 40 0 29 (1 : Int32)) fun M62 => znm (zset M62 40 0 30 (-1 : Int32)) fun M63 => znm (zset M63 40 0 31 (0 : Int32)) fun M64 => znm (zset M64 40 0 32 (0 : Int32)) fun M65 => znm (zclr M65 61 0) fun M66 => znm (zset M66 40 0 33 (1 : Int32)) fun M67 => znm (zclr M67 62 0) fun M68 => znm (zset M68 40 0 34 (1 : Int32)) fun M69 => znm (zclr M69 63 0) fun M70 => znm (zset M70 40 0 35 (1 : Int32)) fun M71 => znm (zclr M71 64 0) fun M72 => znm (zset M72 40 0 36 (1 : Int32)) fun M73 => znm (zclr M73 65 0) fun M74 => znm (zset M74 40 0 37 (1 : Int32)) fun M75 => znm (zset M75 40 0 38 (0 : Int32)) fun M76 => znm (zclr M76 66 0) fun M77 => znm (zset M77 40 0 39 (1 : Int32)) fun M78 => znm (zclr M78 67 0) fun M79 => znm (zset M79 40 0 40 (1 : Int32)) fun M80 => znm (zclr M80 68 0) fun M81 => znm (zset M81 40 0 41 (1 : Int32)) fun M82 => znm (zset M82 40 0 42 (0 : Int32)) fun M83 => znm (zset M83 40 0 43 (-1 : Int32)) fun M84 => znm (zset M84 40 0 44 (0 : Int32)) fun M85 => znm (zset M85 40 0 45 (0 : Int32)) fun M86 => znm (zset M86 40 0 46 (0 : Int32)) fun M87 => znm (zclr M87 69 0) fun M88 => znm (zset M88 40 0 47 (1 : Int32)) fun M89 => znm (zclr M89 70 0) fun M90 => znm (zset M90 40 0 48 (1 : Int32)) fun M91 => znm (zclr M91 71 0) fun M92 => znm (zset M92 40 0 49 (1 : Int32)) fun M93 => znm (zclr M93 72 0) fun M94 => znm (zset M94 40 0 50 (1 : Int32)) fun M95 => znm (zclr M95 73 0) fun M96 => znm (zset M96 40 0 51 (1 : Int32)) fun M97 => znm (zclr M97 74 0) fun M98 => znm (zset M98 40 0 52 (1 : Int32)) fun M99 => znm (zclr M99 75 0) fun M100 => znm (zset M100 40 0 53 (1 : Int32)) fun M101 => znm (zclr M101 76 0) fun M102 => znm (zset M102 40 0 54 (1 : Int32)) fun M103 => znm (zclr M103 77 0) fun M104 => znm (zset M104 40 0 55 (1 : Int32)) fun M105 => znm (zclr M105 78 0) fun M106 => znm (zset M106 40 0 56 (1 : Int32)) fun M107 => znm (zclr M107 79 0) fun M108 => znm (zset M108 40 0 57 (1 : Int32)) fun M109 => znm (zclr M109 80 0) fun M110 => znm (zset M110 40 0 58 (1 : Int32)) fun M111 => znm (zset M111 40 0 59 (0 : Int32)) fun M112 => znm (zclr M112 81 0) fun M113 => znm (zset M113 40 0 60 (1 : Int32)) fun M114 => znm (zclr M114 82 0) fun M115 => znm (zset M115 82 0 0 (-1 : Int32)) fun M116 => znm (zset M116 82 0 1 (-1 : Int32)) fun M117 => znm (zset M117 82 0 2 (-1 : Int32)) fun M118 => znm (zset M118 82 0 3 (-1 : Int32)) fun M119 => znm (zset M119 82 0 4 (-1 : Int32)) fun M120 => znm (zset M120 82 0 5 (-1 : Int32)) fun M121 => znm (zset M121 40 0 61 (1 : Int32)) fun M122 => znm (zclr M122 83 0) fun M123 => znm (zset M123 40 0 62 (1 : Int32)) fun M124 => znm (zclr M124 84 0) fun M125 => znm (zset M125 40 0 63 (1 : Int32)) fun M126 => znm (zclr M126 85 0) fun M127 => znm (zset M127 40 0 64 (1 : Int32)) fun M128 => M128
set_option maxHeartbeats 4000000 in
set_option maxRecDepth 100000 in
theorem tbT_init {l : Launch} {E : zE} {AL : List (Nat × Nat)} {z : Nat} {A : Nat → Prop} {n j0 : Nat} (hA : zAL E AL z A) (hz : ∀ q, z + n ≤ q → A q) (M : zM) (hme : AL[j0]? = some (10, 0)) (hj0 : j0 < n) (hal : ∀ j, j < 1 → AL[n + j]? = ([(11, 0)] : List (Nat × Nat))[j]?) : zCC l yX6_init cX6_init 1 1 1 100 E AL z A [.ref (zad E 10 0)] M n (bT_init M) (n + 1) := by
  refine zCC_of (by decide) rfl hA hz (by first | decide | exact Nat.le_of_ble_eq_true rfl) (fun p e R s m args below meth c C => ?_)
  have C : zCB p R s m args meth c cX6_init "TwoTrue$Text" E AL z A 1 1 1 100 := C
  unfold bT_init
  refine zb_aload_n C 0 rfl 1 rfl dX6_init_0 ?_
  refine zb_obj C 4 rfl dX6_init_1 zw125 zw23 zw24 (by decide) (Nat.le_of_ble_eq_true rfl) ?_
  refine zb_aload_n C 0 rfl 5 rfl dX6_init_4 ?_
  refine zb_bipush C (100 : Int32) (by decide) 7 rfl dX6_init_5 ?_
  refine zb_newa C 0 9 rfl dX6_init_7 rfl (hal 0 (by decide)) (by decide) (N := 100) (by decide) (Nat.le_of_ble_eq_true rfl) zw87 rfl (fun h => h) (100, .inl (fun _ => 0)) rfl (fun _ => rfl) (by decide) (by decide) (fun M1 hM1 => ?_)
  subst hM1
  refine zb_put (ref := "TwoTrue$Text") (v := (.ref (zad E 11 0))) (x := (1 : Int32)) C 0 12 rfl dX6_init_9 hme (by omega) iK6 rfl tyX6 tyX6_ok nmX6 _ rfl rfl (by decide) zw126 rfl (Or.inr rfl) rfl rfl (Nat.le_of_ble_eq_true rfl) (fun M2 hM2 => ?_)
  subst hM2
  exact zb_ret C dX6_init_12 rfl rfl rfl
set_option maxHeartbeats 4000000 in
set_option maxRecDepth 100000 in
theorem tbE_init {l : Launch} {E : zE} {AL : List (Nat × Nat)} {z : Nat} {A : Nat → Prop} {n j0 i : Nat} (hA : zAL E AL z A) (hz : ∀ q, z + n ≤ q → A q) (M : zM) (hme : AL[j0]? = some (13, i)) (hj0 : j0 < n) (hal : ∀ j, j < 2 → AL[n + j]? = ([(14, i), (15, i)] : List (Nat × Nat))[j]?) : zCC l yX1_init cX1_init 1 1 2 106 E AL z A [.ref (zad E 13 i)] M n (bE_init M i) (n + 2) := by
  refine zCC_of (by decide) rfl hA hz (by first | decide | exact Nat.le_of_ble_eq_true rfl) (fun p e R s m args below meth c C => ?_)
  have C : zCB p R s m args meth c cX1_init "TwoTrue$Evening" E AL z A 1 1 2 106 := C
  unfold bE_init
  refine zb_aload_n C 0 rfl 1 rfl dX1_init_0 ?_
  refine zb_obj C 4 rfl dX1_init_1 zw146 zw23 zw24 (by decide) (Nat.le_of_ble_eq_true rfl) ?_
  refine zb_aload_n C 0 rfl 5 rfl dX1_init_4 ?_
  refine zb_bipush C (100 : Int32) (by decide) 7 rfl dX1_init_5 ?_
  refine zb_newa C 0 9 rfl dX1_init_7 rfl (hal 0 (by decide)) (by decide) (N := 100) (by decide) (Nat.le_of_ble_eq_true rfl) zw87 rfl (fun h => h) (100, .inl (fun _ => 0)) rfl (fun _ => rfl) (by decide) (by decide) (fun M1 hM1 => ?_)
  subst hM1
  refine zb_put (ref := "TwoTrue$Evening") (v := (.ref (zad E 14 i))) (x := (1 : Int32)) C 0 12 rfl dX1_init_9 hme (by omega) iK1 rfl tyX1 tyX1_ok nmX1 _ rfl rfl (by decide) zw147 rfl (Or.inr rfl) rfl rfl (Nat.le_of_ble_eq_true rfl) (fun M2 hM2 => ?_)
  subst hM2
  refine zb_aload_n C 0 rfl 13 rfl dX1_init_12 ?_
  refine zb_bipush C (6 : Int32) (by decide) 15 rfl dX1_init_13 ?_
  refine zb_newa C 0 17 rfl dX1_init_15 rfl (hal 1 (by decide)) (by decide) (N := 6) (by decide) (Nat.le_of_ble_eq_true rfl) zw87 rfl (fun h => h) (6, .inl (fun _ => 0)) rfl (fun _ => rfl) (by decide) (by decide) (fun M3 hM3 => ?_)
  subst hM3
  refine zb_put (ref := "TwoTrue$Evening") (v := (.ref (zad E 15 i))) (x := (1 : Int32)) C 2 20 rfl dX1_init_17 hme (by omega) iK1 rfl tyX1 tyX1_ok nmX1 _ rfl rfl (by decide) zw149 rfl (Or.inr rfl) rfl rfl (Nat.le_of_ble_eq_true rfl) (fun M4 hM4 => ?_)
  subst hM4
  refine zb_aload_n C 0 rfl 21 rfl dX1_init_20 ?_
  refine zb_bipush C (10 : Int32) (by decide) 23 rfl dX1_init_21 ?_
  refine zb_put (ref := "TwoTrue$Evening") (v := (.int (10 : Int32))) (x := (10 : Int32)) C 3 26 rfl dX1_init_23 hme (by omega) iK1 rfl tyX1 tyX1_ok nmX1 _ rfl rfl (by decide) zw150 rfl (Or.inl rfl) rfl rfl (Nat.le_of_ble_eq_true rfl) (fun M5 hM5 => ?_)
  subst hM5
  exact zb_ret C dX1_init_26 rfl rfl rfl
set_option maxHeartbeats 4000000 in
set_option maxRecDepth 100000 in
theorem tbY_init {l : Launch} {E : zE} {AL : List (Nat × Nat)} {z : Nat} {A : Nat → Prop} {n j0 : Nat} (hA : zAL E AL z A) (hz : ∀ q, z + n ≤ q → A q) (M : zM) (hme : AL[j0]? = some (16, 0)) (hj0 : j0 < n) (hal : ∀ j, j < 5 → AL[n + j]? = ([(17, 0), (18, 0), (19, 0), (20, 0), (21, 0)] : List (Nat × Nat))[j]?) : zCC l yX4_init cX4_init 1 1 5 39 E AL z A [.ref (zad E 16 0)] M n (bY_init M) (n + 5) := by
  refine zCC_of (by decide) rfl hA hz (by first | decide | exact Nat.le_of_ble_eq_true rfl) (fun p e R s m args below meth c C => ?_)
  have C : zCB p R s m args meth c cX4_init "TwoTrue$Play" E AL z A 1 1 5 39 := C
  unfold bY_init
  refine zb_aload_n C 0 rfl 1 rfl dX4_init_0 ?_
  refine zb_obj C 4 rfl dX4_init_1 zw168 zw23 zw24 (by decide) (Nat.le_of_ble_eq_true rfl) ?_
  refine zb_aload_n C 0 rfl 5 rfl dX4_init_4 ?_
  refine zb_bipush C (18 : Int32) (by decide) 7 rfl dX4_init_5 ?_
  refine zb_newa C 0 9 rfl dX4_init_7 rfl (hal 0 (by decide)) (by decide) (N := 18) (by decide) (Nat.le_of_ble_eq_true rfl) zw87 rfl (fun h => h) (18, .inl (fun _ => 0)) rfl (fun _ => rfl) (by decide) (by decide) (fun M1 hM1 => ?_)
  subst hM1
  refine zb_put (ref := "TwoTrue$Play") (v := (.ref (zad E 17 0))) (x := (1 : Int32)) C 0 12 rfl dX4_init_9 hme (by omega) iK4 rfl tyX4 tyX4_ok nmX4 _ rfl rfl (by decide) zw169 rfl (Or.inr rfl) rfl rfl (Nat.le_of_ble_eq_true rfl) (fun M2 hM2 => ?_)
  subst hM2
  refine zb_aload_n C 0 rfl 13 rfl dX4_init_12 ?_
  refine zb_bipush C (6 : Int32) (by decide) 15 rfl dX4_init_13 ?_
  refine zb_newa C 0 17 rfl dX4_init_15 rfl (hal 1 (by decide)) (by decide) (N := 6) (by decide) (Nat.le_of_ble_eq_true rfl) zw87 rfl (fun h => h) (6, .inl (fun _ => 0)) rfl (fun _ => rfl) (by decide) (by decide) (fun M3 hM3 => ?_)
  subst hM3
  refine zb_put (ref := "TwoTrue$Play") (v := (.ref (zad E 18 0))) (x := (1 : Int32)) C 1 20 rfl dX4_init_17 hme (by omega) iK4 rfl tyX4 tyX4_ok nmX4 _ rfl rfl (by decide) zw170 rfl (Or.inr rfl) rfl rfl (Nat.le_of_ble_eq_true rfl) (fun M4 hM4 => ?_)
  subst hM4
  refine zb_aload_n C 0 rfl 21 rfl dX4_init_20 ?_
  refine zb_bipush C (6 : Int32) (by decide) 23 rfl dX4_init_21 ?_
  refine zb_newa C 2 25 rfl dX4_init_23 rfl (hal 2 (by decide)) (by decide) (N := 6) (by decide) (Nat.le_of_ble_eq_true rfl) zw195 rfl (fun h => h) (6, .inl (fun _ => 0)) rfl (fun _ => rfl) (by decide) (by decide) (fun M5 hM5 => ?_)
  subst hM5
  refine zb_put (ref := "TwoTrue$Play") (v := (.ref (zad E 19 0))) (x := (1 : Int32)) C 2 28 rfl dX4_init_25 hme (by omega) iK4 rfl tyX4 tyX4_ok nmX4 _ rfl rfl (by decide) zw171 rfl (Or.inr rfl) rfl rfl (Nat.le_of_ble_eq_true rfl) (fun M6 hM6 => ?_)
  subst hM6
  refine zb_aload_n C 0 rfl 29 rfl dX4_init_28 ?_
  refine zb_iconst C (3 : Int32) (by decide) 30 rfl dX4_init_29 ?_
  refine zb_newa C 0 32 rfl dX4_init_30 rfl (hal 3 (by decide)) (by decide) (N := 3) (by decide) (Nat.le_of_ble_eq_true rfl) zw87 rfl (fun h => h) (3, .inl (fun _ => 0)) rfl (fun _ => rfl) (by decide) (by decide) (fun M7 hM7 => ?_)
  subst hM7
  refine zb_put (ref := "TwoTrue$Play") (v := (.ref (zad E 20 0))) (x := (1 : Int32)) C 3 35 rfl dX4_init_32 hme (by omega) iK4 rfl tyX4 tyX4_ok nmX4 _ rfl rfl (by decide) zw172 rfl (Or.inr rfl) rfl rfl (Nat.le_of_ble_eq_true rfl) (fun M8 hM8 => ?_)
  subst hM8
  refine zb_aload_n C 0 rfl 36 rfl dX4_init_35 ?_
  refine zb_bipush C (6 : Int32) (by decide) 38 rfl dX4_init_36 ?_
  refine zb_newa C 0 40 rfl dX4_init_38 rfl (hal 4 (by decide)) (by decide) (N := 6) (by decide) (Nat.le_of_ble_eq_true rfl) zw87 rfl (fun h => h) (6, .inl (fun _ => 0)) rfl (fun _ => rfl) (by decide) (by decide) (fun M9 hM9 => ?_)
  subst hM9
  refine zb_put (ref := "TwoTrue$Play") (v := (.ref (zad E 21 0))) (x := (1 : Int32)) C 4 43 rfl dX4_init_40 hme (by omega) iK4 rfl tyX4 tyX4_ok nmX4 _ rfl rfl (by decide) zw174 rfl (Or.inr rfl) rfl rfl (Nat.le_of_ble_eq_true rfl) (fun M10 hM10 => ?_)
  subst hM10
  exact zb_ret C dX4_init_43 rfl rfl rfl
set_option maxHeartbeats 4000000 in
set_option maxRecDepth 100000 in
theorem tbA_init {l : Launch} {E : zE} {AL : List (Nat × Nat)} {z : Nat} {A : Nat → Prop} {n j0 : Nat} (hA : zAL E AL z A) (hz : ∀ q, z + n ≤ q → A q) (M : zM) (hme : AL[j0]? = some (25, 0)) (hj0 : j0 < n) (hal : ∀ j, j < 1 → AL[n + j]? = ([(26, 0)] : List (Nat × Nat))[j]?) : zCC l yX0_init cX0_init 1 1 1 20 E AL z A [.ref (zad E 25 0)] M n (bA_init M) (n + 1) := by
  refine zCC_of (by decide) rfl hA hz (by first | decide | exact Nat.le_of_ble_eq_true rfl) (fun p e R s m args below meth c C => ?_)
  have C : zCB p R s m args meth c cX0_init "TwoTrue$Acts" E AL z A 1 1 1 20 := C
  unfold bA_init
  refine zb_aload_n C 0 rfl 1 rfl dX0_init_0 ?_
  refine zb_obj C 4 rfl dX0_init_1 zw201 zw23 zw24 (by decide) (Nat.le_of_ble_eq_true rfl) ?_
  refine zb_aload_n C 0 rfl 5 rfl dX0_init_4 ?_
  refine zb_bipush C (20 : Int32) (by decide) 7 rfl dX0_init_5 ?_
  refine zb_newa C 0 9 rfl dX0_init_7 rfl (hal 0 (by decide)) (by decide) (N := 20) (by decide) (Nat.le_of_ble_eq_true rfl) zw87 rfl (fun h => h) (20, .inl (fun _ => 0)) rfl (fun _ => rfl) (by decide) (by decide) (fun M1 hM1 => ?_)
  subst hM1
  refine zb_put (ref := "TwoTrue$Acts") (v := (.ref (zad E 26 0))) (x := (1 : Int32)) C 0 12 rfl dX0_init_9 hme (by omega) iK0 rfl tyX0 tyX0_ok nmX0 _ rfl rfl (by decide) zw202 rfl (Or.inr rfl) rfl rfl (Nat.le_of_ble_eq_true rfl) (fun M2 hM2 => ?_)
  subst hM2
  exact zb_ret C dX0_init_12 rfl rfl rfl
set_option maxHeartbeats 4000000 in
set_option maxRecDepth 100000 in
theorem tbK_init {l : Launch} {E : zE} {AL : List (Nat × Nat)} {z : Nat} {A : Nat → Prop} {n j0 : Nat} (hA : zAL E AL z A) (hz : ∀ q, z + n ≤ q → A q) (M : zM) (hme : AL[j0]? = some (27, 0)) (hj0 : j0 < n) (hal : ∀ j, j < 3 → AL[n + j]? = ([(28, 0), (29, 0), (30, 0)] : List (Nat × Nat))[j]?) : zCC l yX5_init cX5_init 2 1 3 372 E AL z A [.ref (zad E 27 0)] M n (bK_init M) (n + 3) := by
  refine zCC_of (by decide) rfl hA hz (by first | decide | exact Nat.le_of_ble_eq_true rfl) (fun p e R s m args below meth c C => ?_)
  have C : zCB p R s m args meth c cX5_init "TwoTrue$Tapes" E AL z A 2 1 3 372 := C
  unfold bK_init
  refine zb_aload_n C 0 rfl 1 rfl dX5_init_0 ?_
  refine zb_obj C 4 rfl dX5_init_1 zw216 zw23 zw24 (by decide) (Nat.le_of_ble_eq_true rfl) ?_
  refine zb_aload_n C 0 rfl 5 rfl dX5_init_4 ?_
  refine zb_bipush C (6 : Int32) (by decide) 7 rfl dX5_init_5 ?_
  refine zb_newa C 0 9 rfl dX5_init_7 rfl (hal 0 (by decide)) (by decide) (N := 6) (by decide) (Nat.le_of_ble_eq_true rfl) zw87 rfl (fun h => h) (6, .inl (fun _ => 0)) rfl (fun _ => rfl) (by decide) (by decide) (fun M1 hM1 => ?_)
  subst hM1
  refine zb_put (ref := "TwoTrue$Tapes") (v := (.ref (zad E 28 0))) (x := (1 : Int32)) C 0 12 rfl dX5_init_9 hme (by omega) iK5 rfl tyX5 tyX5_ok nmX5 _ rfl rfl (by decide) zw217 rfl (Or.inr rfl) rfl rfl (Nat.le_of_ble_eq_true rfl) (fun M2 hM2 => ?_)
  subst hM2
  refine zb_aload_n C 0 rfl 13 rfl dX5_init_12 ?_
  refine zb_bipush C (6 : Int32) (by decide) 15 rfl dX5_init_13 ?_
  refine zb_newa C 0 17 rfl dX5_init_15 rfl (hal 1 (by decide)) (by decide) (N := 6) (by decide) (Nat.le_of_ble_eq_true rfl) zw87 rfl (fun h => h) (6, .inl (fun _ => 0)) rfl (fun _ => rfl) (by decide) (by decide) (fun M3 hM3 => ?_)
  subst hM3
  refine zb_put (ref := "TwoTrue$Tapes") (v := (.ref (zad E 29 0))) (x := (1 : Int32)) C 1 20 rfl dX5_init_17 hme (by omega) iK5 rfl tyX5 tyX5_ok nmX5 _ rfl rfl (by decide) zw219 rfl (Or.inr rfl) rfl rfl (Nat.le_of_ble_eq_true rfl) (fun M4 hM4 => ?_)
  subst hM4
  refine zb_aload_n C 0 rfl 21 rfl dX5_init_20 ?_
  refine zb_sipush C (360 : Int32) (by decide) 24 rfl dX5_init_21 ?_
  refine zb_newa C 1 26 rfl dX5_init_24 rfl (hal 2 (by decide)) (by decide) (N := 360) (by decide) (Nat.le_of_ble_eq_true rfl) zw229 rfl (fun h => h) (360, .inr (.inl (fun _ => 0))) rfl (fun _ => rfl) (by decide) (by decide) (fun M5 hM5 => ?_)
  subst hM5
  refine zb_put (ref := "TwoTrue$Tapes") (v := (.ref (zad E 30 0))) (x := (1 : Int32)) C 2 29 rfl dX5_init_26 hme (by omega) iK5 rfl tyX5 tyX5_ok nmX5 _ rfl rfl (by decide) zw221 rfl (Or.inr rfl) rfl rfl (Nat.le_of_ble_eq_true rfl) (fun M6 hM6 => ?_)
  subst hM6
  refine zb_iconst C (0 : Int32) (by decide) 30 rfl dX5_init_29 ?_
  refine zb_istore_n C 1 [(1, .int (0 : Int32)), (0, .ref (zad E 27 0))] 31 rfl dX5_init_30 rfl (by decide) rfl ?_
  refine zb_iload_n C 0 rfl 32 rfl dX5_init_31 ?_
  refine zb_bipush C (6 : Int32) (by decide) 34 rfl dX5_init_32 ?_
  refine zb_geF C 50 37 rfl dX5_init_34 (by decide) (by decide) ?_
  refine zb_aload_n C 1 rfl 38 rfl dX5_init_37 ?_
  refine zb_get (ref := "TwoTrue$Tapes") (v := .ref (zad E 28 0)) C 0 41 rfl dX5_init_38 hme (by omega) iK5 rfl _ rfl (by decide) zw217 rfl (by show some (zmk _ _) = _; simp [zmk, zset, zclr]) ?_
  refine zb_iload_n C 0 rfl 42 rfl dX5_init_41 ?_
  refine zb_iconst C (-1 : Int32) (by decide) 43 rfl dX5_init_42 ?_
  refine zb_iast C 0 44 rfl dX5_init_43 (hal 0 (by decide)) (by omega) (fun _ _ => rfl) (by decide) (vp_in_iff.mpr (by decide)) (fun M7 hM7 => ?_)
  subst hM7
  refine zb_iinc C 0 (1 : Int32) [(1, .int (1 : Int32)), (0, .ref (zad E 27 0))] 47 rfl dX5_init_44 rfl (by decide) (by decide) rfl ?_
  refine zb_goto C 31 dX5_init_47 (by decide) ?_
  refine zb_iload_n C 0 rfl 32 rfl dX5_init_31 ?_
  refine zb_bipush C (6 : Int32) (by decide) 34 rfl dX5_init_32 ?_
  refine zb_geF C 50 37 rfl dX5_init_34 (by decide) (by decide) ?_
  refine zb_aload_n C 1 rfl 38 rfl dX5_init_37 ?_
  refine zb_get (ref := "TwoTrue$Tapes") (v := .ref (zad E 28 0)) C 0 41 rfl dX5_init_38 hme (by omega) iK5 rfl _ rfl (by decide) zw217 rfl (by show some (zmk _ _) = _; simp [zmk, zset, zclr]) ?_
  refine zb_iload_n C 0 rfl 42 rfl dX5_init_41 ?_
  refine zb_iconst C (-1 : Int32) (by decide) 43 rfl dX5_init_42 ?_
  refine zb_iast C 1 44 rfl dX5_init_43 (hal 0 (by decide)) (by omega) (fun _ _ => rfl) (by decide) (vp_in_iff.mpr (by decide)) (fun M8 hM8 => ?_)
  subst hM8
  refine zb_iinc C 0 (2 : Int32) [(1, .int (2 : Int32)), (0, .ref (zad E 27 0))] 47 rfl dX5_init_44 rfl (by decide) (by decide) rfl ?_
  refine zb_goto C 31 dX5_init_47 (by decide) ?_
  refine zb_iload_n C 0 rfl 32 rfl dX5_init_31 ?_
  refine zb_bipush C (6 : Int32) (by decide) 34 rfl dX5_init_32 ?_
  refine zb_geF C 50 37 rfl dX5_init_34 (by decide) (by decide) ?_
  refine zb_aload_n C 1 rfl 38 rfl dX5_init_37 ?_
  refine zb_get (ref := "TwoTrue$Tapes") (v := .ref (zad E 28 0)) C 0 41 rfl dX5_init_38 hme (by omega) iK5 rfl _ rfl (by decide) zw217 rfl (by show some (zmk _ _) = _; simp [zmk, zset, zclr]) ?_
  refine zb_iload_n C 0 rfl 42 rfl dX5_init_41 ?_
  refine zb_iconst C (-1 : Int32) (by decide) 43 rfl dX5_init_42 ?_
  refine zb_iast C 2 44 rfl dX5_init_43 (hal 0 (by decide)) (by omega) (fun _ _ => rfl) (by decide) (vp_in_iff.mpr (by decide)) (fun M9 hM9 => ?_)
  subst hM9
  refine zb_iinc C 0 (3 : Int32) [(1, .int (3 : Int32)), (0, .ref (zad E 27 0))] 47 rfl dX5_init_44 rfl (by decide) (by decide) rfl ?_
  refine zb_goto C 31 dX5_init_47 (by decide) ?_
  refine zb_iload_n C 0 rfl 32 rfl dX5_init_31 ?_
  refine zb_bipush C (6 : Int32) (by decide) 34 rfl dX5_init_32 ?_
  refine zb_geF C 50 37 rfl dX5_init_34 (by decide) (by decide) ?_
  refine zb_aload_n C 1 rfl 38 rfl dX5_init_37 ?_
  refine zb_get (ref := "TwoTrue$Tapes") (v := .ref (zad E 28 0)) C 0 41 rfl dX5_init_38 hme (by omega) iK5 rfl _ rfl (by decide) zw217 rfl (by show some (zmk _ _) = _; simp [zmk, zset, zclr]) ?_
  refine zb_iload_n C 0 rfl 42 rfl dX5_init_41 ?_
  refine zb_iconst C (-1 : Int32) (by decide) 43 rfl dX5_init_42 ?_
  refine zb_iast C 3 44 rfl dX5_init_43 (hal 0 (by decide)) (by omega) (fun _ _ => rfl) (by decide) (vp_in_iff.mpr (by decide)) (fun M10 hM10 => ?_)
  subst hM10
  refine zb_iinc C 0 (4 : Int32) [(1, .int (4 : Int32)), (0, .ref (zad E 27 0))] 47 rfl dX5_init_44 rfl (by decide) (by decide) rfl ?_
  refine zb_goto C 31 dX5_init_47 (by decide) ?_
  refine zb_iload_n C 0 rfl 32 rfl dX5_init_31 ?_
  refine zb_bipush C (6 : Int32) (by decide) 34 rfl dX5_init_32 ?_
  refine zb_geF C 50 37 rfl dX5_init_34 (by decide) (by decide) ?_
  refine zb_aload_n C 1 rfl 38 rfl dX5_init_37 ?_
  refine zb_get (ref := "TwoTrue$Tapes") (v := .ref (zad E 28 0)) C 0 41 rfl dX5_init_38 hme (by omega) iK5 rfl _ rfl (by decide) zw217 rfl (by show some (zmk _ _) = _; simp [zmk, zset, zclr]) ?_
  refine zb_iload_n C 0 rfl 42 rfl dX5_init_41 ?_
  refine zb_iconst C (-1 : Int32) (by decide) 43 rfl dX5_init_42 ?_
  refine zb_iast C 4 44 rfl dX5_init_43 (hal 0 (by decide)) (by omega) (fun _ _ => rfl) (by decide) (vp_in_iff.mpr (by decide)) (fun M11 hM11 => ?_)
  subst hM11
  refine zb_iinc C 0 (5 : Int32) [(1, .int (5 : Int32)), (0, .ref (zad E 27 0))] 47 rfl dX5_init_44 rfl (by decide) (by decide) rfl ?_
  refine zb_goto C 31 dX5_init_47 (by decide) ?_
  refine zb_iload_n C 0 rfl 32 rfl dX5_init_31 ?_
  refine zb_bipush C (6 : Int32) (by decide) 34 rfl dX5_init_32 ?_
  refine zb_geF C 50 37 rfl dX5_init_34 (by decide) (by decide) ?_
  refine zb_aload_n C 1 rfl 38 rfl dX5_init_37 ?_
  refine zb_get (ref := "TwoTrue$Tapes") (v := .ref (zad E 28 0)) C 0 41 rfl dX5_init_38 hme (by omega) iK5 rfl _ rfl (by decide) zw217 rfl (by show some (zmk _ _) = _; simp [zmk, zset, zclr]) ?_
  refine zb_iload_n C 0 rfl 42 rfl dX5_init_41 ?_
  refine zb_iconst C (-1 : Int32) (by decide) 43 rfl dX5_init_42 ?_
  refine zb_iast C 5 44 rfl dX5_init_43 (hal 0 (by decide)) (by omega) (fun _ _ => rfl) (by decide) (vp_in_iff.mpr (by decide)) (fun M12 hM12 => ?_)
  subst hM12
  refine zb_iinc C 0 (6 : Int32) [(1, .int (6 : Int32)), (0, .ref (zad E 27 0))] 47 rfl dX5_init_44 rfl (by decide) (by decide) rfl ?_
  refine zb_goto C 31 dX5_init_47 (by decide) ?_
  refine zb_iload_n C 0 rfl 32 rfl dX5_init_31 ?_
  refine zb_bipush C (6 : Int32) (by decide) 34 rfl dX5_init_32 ?_
  refine zb_geT C 50 dX5_init_34 (by decide) (by decide) ?_
  exact zb_ret C dX5_init_50 rfl rfl rfl
set_option maxHeartbeats 4000000 in
set_option maxRecDepth 100000 in
theorem tbN_init {l : Launch} {E : zE} {AL : List (Nat × Nat)} {z : Nat} {A : Nat → Prop} {n j0 i : Nat} (hA : zAL E AL z A) (hz : ∀ q, z + n ≤ q → A q) (M : zM) (a0 : Int32) (hme : AL[j0]? = some (2, i)) (hj0 : j0 < n) (hal : ∀ j, j < 4 → AL[n + j]? = ([(3, i), (4, i), (5, i), (6, i)] : List (Nat × Nat))[j]?) : zCC l yX3_init cX3_init 2 1 4 13 E AL z A [.ref (zad E 2 i), .int a0] M n (bN_init M i a0) (n + 4) := by
  refine zCC_of (by decide) rfl hA hz (by first | decide | exact Nat.le_of_ble_eq_true rfl) (fun p e R s m args below meth c C => ?_)
  have C : zCB p R s m args meth c cX3_init "TwoTrue$Person" E AL z A 2 1 4 13 := C
  unfold bN_init
  refine zb_aload_n C 0 rfl 1 rfl dX3_init_0 ?_
  refine zb_obj C 4 rfl dX3_init_1 zw37 zw23 zw24 (by decide) (Nat.le_of_ble_eq_true rfl) ?_
  refine zb_aload_n C 0 rfl 5 rfl dX3_init_4 ?_
  refine zb_iconst C (3 : Int32) (by decide) 6 rfl dX3_init_5 ?_
  refine zb_newa C 0 8 rfl dX3_init_6 rfl (hal 0 (by decide)) (by decide) (N := 3) (by decide) (Nat.le_of_ble_eq_true rfl) zw87 rfl (fun h => h) (3, .inl (fun _ => 0)) rfl (fun _ => rfl) (by decide) (by decide) (fun M1 hM1 => ?_)
  subst hM1
  refine zb_put (ref := "TwoTrue$Person") (v := (.ref (zad E 3 i))) (x := (1 : Int32)) C 5 11 rfl dX3_init_8 hme (by omega) iK3 rfl tyX3 tyX3_ok nmX3 _ rfl rfl (by decide) zw55 rfl (Or.inr rfl) rfl rfl (Nat.le_of_ble_eq_true rfl) (fun M2 hM2 => ?_)
  subst hM2
  refine zb_aload_n C 0 rfl 12 rfl dX3_init_11 ?_
  refine zb_iconst C (3 : Int32) (by decide) 13 rfl dX3_init_12 ?_
  refine zb_newa C 0 15 rfl dX3_init_13 rfl (hal 1 (by decide)) (by decide) (N := 3) (by decide) (Nat.le_of_ble_eq_true rfl) zw87 rfl (fun h => h) (3, .inl (fun _ => 0)) rfl (fun _ => rfl) (by decide) (by decide) (fun M3 hM3 => ?_)
  subst hM3
  refine zb_put (ref := "TwoTrue$Person") (v := (.ref (zad E 4 i))) (x := (1 : Int32)) C 6 18 rfl dX3_init_15 hme (by omega) iK3 rfl tyX3 tyX3_ok nmX3 _ rfl rfl (by decide) zw58 rfl (Or.inr rfl) rfl rfl (Nat.le_of_ble_eq_true rfl) (fun M4 hM4 => ?_)
  subst hM4
  refine zb_aload_n C 0 rfl 19 rfl dX3_init_18 ?_
  refine zb_iconst C (3 : Int32) (by decide) 20 rfl dX3_init_19 ?_
  refine zb_newa C 0 22 rfl dX3_init_20 rfl (hal 2 (by decide)) (by decide) (N := 3) (by decide) (Nat.le_of_ble_eq_true rfl) zw87 rfl (fun h => h) (3, .inl (fun _ => 0)) rfl (fun _ => rfl) (by decide) (by decide) (fun M5 hM5 => ?_)
  subst hM5
  refine zb_put (ref := "TwoTrue$Person") (v := (.ref (zad E 5 i))) (x := (1 : Int32)) C 7 25 rfl dX3_init_22 hme (by omega) iK3 rfl tyX3 tyX3_ok nmX3 _ rfl rfl (by decide) zw62 rfl (Or.inr rfl) rfl rfl (Nat.le_of_ble_eq_true rfl) (fun M6 hM6 => ?_)
  subst hM6
  refine zb_aload_n C 0 rfl 26 rfl dX3_init_25 ?_
  refine zb_iconst C (4 : Int32) (by decide) 27 rfl dX3_init_26 ?_
  refine zb_newa C 0 29 rfl dX3_init_27 rfl (hal 3 (by decide)) (by decide) (N := 4) (by decide) (Nat.le_of_ble_eq_true rfl) zw87 rfl (fun h => h) (4, .inl (fun _ => 0)) rfl (fun _ => rfl) (by decide) (by decide) (fun M7 hM7 => ?_)
  subst hM7
  refine zb_put (ref := "TwoTrue$Person") (v := (.ref (zad E 6 i))) (x := (1 : Int32)) C 8 32 rfl dX3_init_29 hme (by omega) iK3 rfl tyX3 tyX3_ok nmX3 _ rfl rfl (by decide) zw65 rfl (Or.inr rfl) rfl rfl (Nat.le_of_ble_eq_true rfl) (fun M8 hM8 => ?_)
  subst hM8
  refine zb_aload_n C 0 rfl 33 rfl dX3_init_32 ?_
  refine zb_iload_n C 1 rfl 34 rfl dX3_init_33 ?_
  refine zb_put (ref := "TwoTrue$Person") (v := (.int a0)) (x := a0) C 0 37 rfl dX3_init_34 hme (by omega) iK3 rfl tyX3 tyX3_ok nmX3 _ rfl rfl (by decide) zw38 rfl (Or.inr rfl) rfl rfl (Nat.le_of_ble_eq_true rfl) (fun M9 hM9 => ?_)
  subst hM9
  exact zb_ret C dX3_init_37 rfl rfl rfl
set_option maxHeartbeats 4000000 in
set_option maxRecDepth 100000 in
theorem tbP_init {l : Launch} {E : zE} {AL : List (Nat × Nat)} {z : Nat} {A : Nat → Prop} {n j0 i : Nat} (hA : zAL E AL z A) (hz : ∀ q, z + n ≤ q → A q) (M : zM) (hme : AL[j0]? = some (1, i)) (hj0 : j0 < n) (hal : ∀ j, j < 33 → AL[n + j]? = ([(7, i), (8, i), (9, i), (2, (6 * i + 0)), (3, (6 * i + 0)), (4, (6 * i + 0)), (5, (6 * i + 0)), (6, (6 * i + 0)), (2, (6 * i + 1)), (3, (6 * i + 1)), (4, (6 * i + 1)), (5, (6 * i + 1)), (6, (6 * i + 1)), (2, (6 * i + 2)), (3, (6 * i + 2)), (4, (6 * i + 2)), (5, (6 * i + 2)), (6, (6 * i + 2)), (2, (6 * i + 3)), (3, (6 * i + 3)), (4, (6 * i + 3)), (5, (6 * i + 3)), (6, (6 * i + 3)), (2, (6 * i + 4)), (3, (6 * i + 4)), (4, (6 * i + 4)), (5, (6 * i + 4)), (6, (6 * i + 4)), (2, (6 * i + 5)), (3, (6 * i + 5)), (4, (6 * i + 5)), (5, (6 * i + 5)), (6, (6 * i + 5))] : List (Nat × Nat))[j]?) : zCC l yX2_init cX2_init 2 2 33 177 E AL z A [.ref (zad E 1 i)] M n (bP_init M i) (n + 33) := by
  refine zCC_of (by decide) rfl hA hz (by first | decide | exact Nat.le_of_ble_eq_true rfl) (fun p e R s m args below meth c C => ?_)
  have C : zCB p R s m args meth c cX2_init "TwoTrue$Party" E AL z A 2 2 33 177 := C
  unfold bP_init
  refine zb_aload_n C 0 rfl 1 rfl dX2_init_0 ?_
  refine zb_obj C 4 rfl dX2_init_1 zw30 zw23 zw24 (by decide) (Nat.le_of_ble_eq_true rfl) ?_
  refine zb_aload_n C 0 rfl 5 rfl dX2_init_4 ?_
  refine zb_bipush C (6 : Int32) (by decide) 7 rfl dX2_init_5 ?_
  refine zb_newq C 3 10 rfl dX2_init_7 (hal 0 (by decide)) (by decide) (N := 6) (by decide) (by decide) zw31 C.2.2.2.2.2.2.1.2.1 rfl rfl (by decide) (by decide) (fun M1 hM1 => ?_)
  subst hM1
  refine zb_put (ref := "TwoTrue$Party") (v := (.ref (zad E 7 i))) (x := (1 : Int32)) C 0 13 rfl dX2_init_10 hme (by omega) iK2 rfl tyX2 tyX2_ok nmX2 _ rfl rfl (by decide) zw88 rfl (Or.inr rfl) rfl rfl (Nat.le_of_ble_eq_true rfl) (fun M2 hM2 => ?_)
  subst hM2
  refine zb_aload_n C 0 rfl 14 rfl dX2_init_13 ?_
  refine zb_iconst C (-1 : Int32) (by decide) 15 rfl dX2_init_14 ?_
  refine zb_put (ref := "TwoTrue$Party") (v := (.int (-1 : Int32))) (x := (-1 : Int32)) C 3 18 rfl dX2_init_15 hme (by omega) iK2 rfl tyX2 tyX2_ok nmX2 _ rfl rfl (by decide) zw97 rfl (Or.inl rfl) rfl rfl (Nat.le_of_ble_eq_true rfl) (fun M3 hM3 => ?_)
  subst hM3
  refine zb_aload_n C 0 rfl 19 rfl dX2_init_18 ?_
  refine zb_iconst C (3 : Int32) (by decide) 20 rfl dX2_init_19 ?_
  refine zb_newa C 0 22 rfl dX2_init_20 rfl (hal 1 (by decide)) (by decide) (N := 3) (by decide) (Nat.le_of_ble_eq_true rfl) zw87 rfl (fun h => h) (3, .inl (fun _ => 0)) rfl (fun _ => rfl) (by decide) (by decide) (fun M4 hM4 => ?_)
  subst hM4
  refine zb_put (ref := "TwoTrue$Party") (v := (.ref (zad E 8 i))) (x := (1 : Int32)) C 4 25 rfl dX2_init_22 hme (by omega) iK2 rfl tyX2 tyX2_ok nmX2 _ rfl rfl (by decide) zw99 rfl (Or.inr rfl) rfl rfl (Nat.le_of_ble_eq_true rfl) (fun M5 hM5 => ?_)
  subst hM5
  refine zb_aload_n C 0 rfl 26 rfl dX2_init_25 ?_
  refine zb_bipush C (36 : Int32) (by decide) 28 rfl dX2_init_26 ?_
  refine zb_newa C 0 30 rfl dX2_init_28 rfl (hal 2 (by decide)) (by decide) (N := 36) (by decide) (Nat.le_of_ble_eq_true rfl) zw87 rfl (fun h => h) (36, .inl (fun _ => 0)) rfl (fun _ => rfl) (by decide) (by decide) (fun M6 hM6 => ?_)
  subst hM6
  refine zb_put (ref := "TwoTrue$Party") (v := (.ref (zad E 9 i))) (x := (1 : Int32)) C 5 33 rfl dX2_init_30 hme (by omega) iK2 rfl tyX2 tyX2_ok nmX2 _ rfl rfl (by decide) zw101 rfl (Or.inr rfl) rfl rfl (Nat.le_of_ble_eq_true rfl) (fun M7 hM7 => ?_)
  subst hM7
  refine zb_iconst C (0 : Int32) (by decide) 34 rfl dX2_init_33 ?_
  refine zb_istore_n C 1 [(1, .int (0 : Int32)), (0, .ref (zad E 1 i))] 35 rfl dX2_init_34 rfl (by decide) rfl ?_
  refine zb_iload_n C 0 rfl 36 rfl dX2_init_35 ?_
  refine zb_bipush C (6 : Int32) (by decide) 38 rfl dX2_init_36 ?_
  refine zb_geF C 61 41 rfl dX2_init_38 (by decide) (by decide) ?_
  refine zb_aload_n C 1 rfl 42 rfl dX2_init_41 ?_
  refine zb_get (ref := "TwoTrue$Party") (v := .ref (zad E 7 i)) C 0 45 rfl dX2_init_42 hme (by omega) iK2 rfl _ rfl (by decide) zw88 rfl (by show some (zmk _ _) = _; simp [zmk, zset, zclr, znm, bN_init]) ?_
  refine zb_iload_n C 0 rfl 46 rfl dX2_init_45 ?_
  refine zb_new C 49 rfl dX2_init_46 (hal 3 (by decide)) iK3 rfl tyX3 tyX3_ok [.int 0, .int 0, .int 0, .int 0, .int 0, .null, .null, .null, .null] rfl (fun j hj => by rcases (show j = 0 ∨ j = 1 ∨ j = 2 ∨ j = 3 ∨ j = 4 ∨ j = 5 ∨ j = 6 ∨ j = 7 ∨ j = 8 by omega) with rfl | rfl | rfl | rfl | rfl | rfl | rfl | rfl | rfl <;> rfl) zw31 zw33 zw3 (by decide) (by decide) (fun M8 hM8 => ?_)
  subst hM8
  refine zb_dup C rfl 50 rfl dX2_init_49 ?_
  refine zb_iload_n C 0 rfl 51 rfl dX2_init_50 ?_
  refine zb_callI (n2 := (n + 8)) C [.int (0 : Int32)] 54 rfl dX2_init_51 (tbN_init (i := (6 * i + 0)) (n := (n + 4)) hA (fun q hq => hz q (by omega)) _ (0 : Int32) (hal 3 (by decide)) (by omega) (fun j hj => by
    rcases (show j = 0 ∨ j = 1 ∨ j = 2 ∨ j = 3 by omega) with rfl | rfl | rfl | rfl
    · exact hal 4 (by decide)
    · exact hal 5 (by decide)
    · exact hal 6 (by decide)
    · exact hal 7 (by decide))) rfl zw36 zw34 zw35 zw3 rfl oX3_init (by decide) (Nat.le_of_ble_eq_true rfl) (by decide) (by decide) (fun M9 hM9 => ?_)
  subst hM9
  refine zb_aast (b := (6 * i)) (t0 := 3) C 0 55 rfl dX2_init_54 (hal 0 (by decide)) (by omega) (hal 3 (by decide)) (by omega) (fun _ _ => rfl) rfl rfl rfl (by decide) (by omega) (vp_in_iff.mpr (by decide)) (fun M10 hM10 => ?_)
  subst hM10
  refine zb_iinc C 0 (1 : Int32) [(1, .int (1 : Int32)), (0, .ref (zad E 1 i))] 58 rfl dX2_init_55 rfl (by decide) (by decide) rfl ?_
  refine zb_goto C 35 dX2_init_58 (by decide) ?_
  refine zb_iload_n C 0 rfl 36 rfl dX2_init_35 ?_
  refine zb_bipush C (6 : Int32) (by decide) 38 rfl dX2_init_36 ?_
  refine zb_geF C 61 41 rfl dX2_init_38 (by decide) (by decide) ?_
  refine zb_aload_n C 1 rfl 42 rfl dX2_init_41 ?_
  refine zb_get (ref := "TwoTrue$Party") (v := .ref (zad E 7 i)) C 0 45 rfl dX2_init_42 hme (by omega) iK2 rfl _ rfl (by decide) zw88 rfl (by show some (zmk _ _) = _; simp [zmk, zset, zclr, znm, bN_init]) ?_
  refine zb_iload_n C 0 rfl 46 rfl dX2_init_45 ?_
  refine zb_new C 49 rfl dX2_init_46 (hal 8 (by decide)) iK3 rfl tyX3 tyX3_ok [.int 0, .int 0, .int 0, .int 0, .int 0, .null, .null, .null, .null] rfl (fun j hj => by rcases (show j = 0 ∨ j = 1 ∨ j = 2 ∨ j = 3 ∨ j = 4 ∨ j = 5 ∨ j = 6 ∨ j = 7 ∨ j = 8 by omega) with rfl | rfl | rfl | rfl | rfl | rfl | rfl | rfl | rfl <;> rfl) zw31 zw33 zw3 (by decide) (by decide) (fun M11 hM11 => ?_)
  subst hM11
  refine zb_dup C rfl 50 rfl dX2_init_49 ?_
  refine zb_iload_n C 0 rfl 51 rfl dX2_init_50 ?_
  refine zb_callI (n2 := (n + 13)) C [.int (1 : Int32)] 54 rfl dX2_init_51 (tbN_init (i := (6 * i + 1)) (n := (n + 9)) hA (fun q hq => hz q (by omega)) _ (1 : Int32) (hal 8 (by decide)) (by omega) (fun j hj => by
    rcases (show j = 0 ∨ j = 1 ∨ j = 2 ∨ j = 3 by omega) with rfl | rfl | rfl | rfl
    · exact hal 9 (by decide)
    · exact hal 10 (by decide)
    · exact hal 11 (by decide)
    · exact hal 12 (by decide))) rfl zw36 zw34 zw35 zw3 rfl oX3_init (by decide) (Nat.le_of_ble_eq_true rfl) (by decide) (by decide) (fun M12 hM12 => ?_)
  subst hM12
  refine zb_aast (b := (6 * i)) (t0 := 3) C 1 55 rfl dX2_init_54 (hal 0 (by decide)) (by omega) (hal 8 (by decide)) (by omega) (fun _ _ => rfl) rfl rfl rfl (by decide) (by omega) (vp_in_iff.mpr (by decide)) (fun M13 hM13 => ?_)
  subst hM13
  refine zb_iinc C 0 (2 : Int32) [(1, .int (2 : Int32)), (0, .ref (zad E 1 i))] 58 rfl dX2_init_55 rfl (by decide) (by decide) rfl ?_
  refine zb_goto C 35 dX2_init_58 (by decide) ?_
  refine zb_iload_n C 0 rfl 36 rfl dX2_init_35 ?_
  refine zb_bipush C (6 : Int32) (by decide) 38 rfl dX2_init_36 ?_
  refine zb_geF C 61 41 rfl dX2_init_38 (by decide) (by decide) ?_
  refine zb_aload_n C 1 rfl 42 rfl dX2_init_41 ?_
  refine zb_get (ref := "TwoTrue$Party") (v := .ref (zad E 7 i)) C 0 45 rfl dX2_init_42 hme (by omega) iK2 rfl _ rfl (by decide) zw88 rfl (by show some (zmk _ _) = _; simp [zmk, zset, zclr, znm, bN_init]) ?_
  refine zb_iload_n C 0 rfl 46 rfl dX2_init_45 ?_
  refine zb_new C 49 rfl dX2_init_46 (hal 13 (by decide)) iK3 rfl tyX3 tyX3_ok [.int 0, .int 0, .int 0, .int 0, .int 0, .null, .null, .null, .null] rfl (fun j hj => by rcases (show j = 0 ∨ j = 1 ∨ j = 2 ∨ j = 3 ∨ j = 4 ∨ j = 5 ∨ j = 6 ∨ j = 7 ∨ j = 8 by omega) with rfl | rfl | rfl | rfl | rfl | rfl | rfl | rfl | rfl <;> rfl) zw31 zw33 zw3 (by decide) (by decide) (fun M14 hM14 => ?_)
  subst hM14
  refine zb_dup C rfl 50 rfl dX2_init_49 ?_
  refine zb_iload_n C 0 rfl 51 rfl dX2_init_50 ?_
  refine zb_callI (n2 := (n + 18)) C [.int (2 : Int32)] 54 rfl dX2_init_51 (tbN_init (i := (6 * i + 2)) (n := (n + 14)) hA (fun q hq => hz q (by omega)) _ (2 : Int32) (hal 13 (by decide)) (by omega) (fun j hj => by
    rcases (show j = 0 ∨ j = 1 ∨ j = 2 ∨ j = 3 by omega) with rfl | rfl | rfl | rfl
    · exact hal 14 (by decide)
    · exact hal 15 (by decide)
    · exact hal 16 (by decide)
    · exact hal 17 (by decide))) rfl zw36 zw34 zw35 zw3 rfl oX3_init (by decide) (Nat.le_of_ble_eq_true rfl) (by decide) (by decide) (fun M15 hM15 => ?_)
  subst hM15
  refine zb_aast (b := (6 * i)) (t0 := 3) C 2 55 rfl dX2_init_54 (hal 0 (by decide)) (by omega) (hal 13 (by decide)) (by omega) (fun _ _ => rfl) rfl rfl rfl (by decide) (by omega) (vp_in_iff.mpr (by decide)) (fun M16 hM16 => ?_)
  subst hM16
  refine zb_iinc C 0 (3 : Int32) [(1, .int (3 : Int32)), (0, .ref (zad E 1 i))] 58 rfl dX2_init_55 rfl (by decide) (by decide) rfl ?_
  refine zb_goto C 35 dX2_init_58 (by decide) ?_
  refine zb_iload_n C 0 rfl 36 rfl dX2_init_35 ?_
  refine zb_bipush C (6 : Int32) (by decide) 38 rfl dX2_init_36 ?_
  refine zb_geF C 61 41 rfl dX2_init_38 (by decide) (by decide) ?_
  refine zb_aload_n C 1 rfl 42 rfl dX2_init_41 ?_
  refine zb_get (ref := "TwoTrue$Party") (v := .ref (zad E 7 i)) C 0 45 rfl dX2_init_42 hme (by omega) iK2 rfl _ rfl (by decide) zw88 rfl (by show some (zmk _ _) = _; simp [zmk, zset, zclr, znm, bN_init]) ?_
  refine zb_iload_n C 0 rfl 46 rfl dX2_init_45 ?_
  refine zb_new C 49 rfl dX2_init_46 (hal 18 (by decide)) iK3 rfl tyX3 tyX3_ok [.int 0, .int 0, .int 0, .int 0, .int 0, .null, .null, .null, .null] rfl (fun j hj => by rcases (show j = 0 ∨ j = 1 ∨ j = 2 ∨ j = 3 ∨ j = 4 ∨ j = 5 ∨ j = 6 ∨ j = 7 ∨ j = 8 by omega) with rfl | rfl | rfl | rfl | rfl | rfl | rfl | rfl | rfl <;> rfl) zw31 zw33 zw3 (by decide) (by decide) (fun M17 hM17 => ?_)
  subst hM17
  refine zb_dup C rfl 50 rfl dX2_init_49 ?_
  refine zb_iload_n C 0 rfl 51 rfl dX2_init_50 ?_
  refine zb_callI (n2 := (n + 23)) C [.int (3 : Int32)] 54 rfl dX2_init_51 (tbN_init (i := (6 * i + 3)) (n := (n + 19)) hA (fun q hq => hz q (by omega)) _ (3 : Int32) (hal 18 (by decide)) (by omega) (fun j hj => by
    rcases (show j = 0 ∨ j = 1 ∨ j = 2 ∨ j = 3 by omega) with rfl | rfl | rfl | rfl
    · exact hal 19 (by decide)
    · exact hal 20 (by decide)
    · exact hal 21 (by decide)
    · exact hal 22 (by decide))) rfl zw36 zw34 zw35 zw3 rfl oX3_init (by decide) (Nat.le_of_ble_eq_true rfl) (by decide) (by decide) (fun M18 hM18 => ?_)
  subst hM18
  refine zb_aast (b := (6 * i)) (t0 := 3) C 3 55 rfl dX2_init_54 (hal 0 (by decide)) (by omega) (hal 18 (by decide)) (by omega) (fun _ _ => rfl) rfl rfl rfl (by decide) (by omega) (vp_in_iff.mpr (by decide)) (fun M19 hM19 => ?_)
  subst hM19
  refine zb_iinc C 0 (4 : Int32) [(1, .int (4 : Int32)), (0, .ref (zad E 1 i))] 58 rfl dX2_init_55 rfl (by decide) (by decide) rfl ?_
  refine zb_goto C 35 dX2_init_58 (by decide) ?_
  refine zb_iload_n C 0 rfl 36 rfl dX2_init_35 ?_
  refine zb_bipush C (6 : Int32) (by decide) 38 rfl dX2_init_36 ?_
  refine zb_geF C 61 41 rfl dX2_init_38 (by decide) (by decide) ?_
  refine zb_aload_n C 1 rfl 42 rfl dX2_init_41 ?_
  refine zb_get (ref := "TwoTrue$Party") (v := .ref (zad E 7 i)) C 0 45 rfl dX2_init_42 hme (by omega) iK2 rfl _ rfl (by decide) zw88 rfl (by show some (zmk _ _) = _; simp [zmk, zset, zclr, znm, bN_init]) ?_
  refine zb_iload_n C 0 rfl 46 rfl dX2_init_45 ?_
  refine zb_new C 49 rfl dX2_init_46 (hal 23 (by decide)) iK3 rfl tyX3 tyX3_ok [.int 0, .int 0, .int 0, .int 0, .int 0, .null, .null, .null, .null] rfl (fun j hj => by rcases (show j = 0 ∨ j = 1 ∨ j = 2 ∨ j = 3 ∨ j = 4 ∨ j = 5 ∨ j = 6 ∨ j = 7 ∨ j = 8 by omega) with rfl | rfl | rfl | rfl | rfl | rfl | rfl | rfl | rfl <;> rfl) zw31 zw33 zw3 (by decide) (by decide) (fun M20 hM20 => ?_)
  subst hM20
  refine zb_dup C rfl 50 rfl dX2_init_49 ?_
  refine zb_iload_n C 0 rfl 51 rfl dX2_init_50 ?_
  refine zb_callI (n2 := (n + 28)) C [.int (4 : Int32)] 54 rfl dX2_init_51 (tbN_init (i := (6 * i + 4)) (n := (n + 24)) hA (fun q hq => hz q (by omega)) _ (4 : Int32) (hal 23 (by decide)) (by omega) (fun j hj => by
    rcases (show j = 0 ∨ j = 1 ∨ j = 2 ∨ j = 3 by omega) with rfl | rfl | rfl | rfl
    · exact hal 24 (by decide)
    · exact hal 25 (by decide)
    · exact hal 26 (by decide)
    · exact hal 27 (by decide))) rfl zw36 zw34 zw35 zw3 rfl oX3_init (by decide) (Nat.le_of_ble_eq_true rfl) (by decide) (by decide) (fun M21 hM21 => ?_)
  subst hM21
  refine zb_aast (b := (6 * i)) (t0 := 3) C 4 55 rfl dX2_init_54 (hal 0 (by decide)) (by omega) (hal 23 (by decide)) (by omega) (fun _ _ => rfl) rfl rfl rfl (by decide) (by omega) (vp_in_iff.mpr (by decide)) (fun M22 hM22 => ?_)
  subst hM22
  refine zb_iinc C 0 (5 : Int32) [(1, .int (5 : Int32)), (0, .ref (zad E 1 i))] 58 rfl dX2_init_55 rfl (by decide) (by decide) rfl ?_
  refine zb_goto C 35 dX2_init_58 (by decide) ?_
  refine zb_iload_n C 0 rfl 36 rfl dX2_init_35 ?_
  refine zb_bipush C (6 : Int32) (by decide) 38 rfl dX2_init_36 ?_
  refine zb_geF C 61 41 rfl dX2_init_38 (by decide) (by decide) ?_
  refine zb_aload_n C 1 rfl 42 rfl dX2_init_41 ?_
  refine zb_get (ref := "TwoTrue$Party") (v := .ref (zad E 7 i)) C 0 45 rfl dX2_init_42 hme (by omega) iK2 rfl _ rfl (by decide) zw88 rfl (by show some (zmk _ _) = _; simp [zmk, zset, zclr, znm, bN_init]) ?_
  refine zb_iload_n C 0 rfl 46 rfl dX2_init_45 ?_
  refine zb_new C 49 rfl dX2_init_46 (hal 28 (by decide)) iK3 rfl tyX3 tyX3_ok [.int 0, .int 0, .int 0, .int 0, .int 0, .null, .null, .null, .null] rfl (fun j hj => by rcases (show j = 0 ∨ j = 1 ∨ j = 2 ∨ j = 3 ∨ j = 4 ∨ j = 5 ∨ j = 6 ∨ j = 7 ∨ j = 8 by omega) with rfl | rfl | rfl | rfl | rfl | rfl | rfl | rfl | rfl <;> rfl) zw31 zw33 zw3 (by decide) (by decide) (fun M23 hM23 => ?_)
  subst hM23
  refine zb_dup C rfl 50 rfl dX2_init_49 ?_
  refine zb_iload_n C 0 rfl 51 rfl dX2_init_50 ?_
  refine zb_callI (n2 := (n + 33)) C [.int (5 : Int32)] 54 rfl dX2_init_51 (tbN_init (i := (6 * i + 5)) (n := (n + 29)) hA (fun q hq => hz q (by omega)) _ (5 : Int32) (hal 28 (by decide)) (by omega) (fun j hj => by
    rcases (show j = 0 ∨ j = 1 ∨ j = 2 ∨ j = 3 by omega) with rfl | rfl | rfl | rfl
    · exact hal 29 (by decide)
    · exact hal 30 (by decide)
    · exact hal 31 (by decide)
    · exact hal 32 (by decide))) rfl zw36 zw34 zw35 zw3 rfl oX3_init (by decide) (Nat.le_of_ble_eq_true rfl) (by decide) (by decide) (fun M24 hM24 => ?_)
  subst hM24
  refine zb_aast (b := (6 * i)) (t0 := 3) C 5 55 rfl dX2_init_54 (hal 0 (by decide)) (by omega) (hal 28 (by decide)) (by omega) (fun _ _ => rfl) rfl rfl rfl (by decide) (by omega) (vp_in_iff.mpr (by decide)) (fun M25 hM25 => ?_)
  subst hM25
  refine zb_iinc C 0 (6 : Int32) [(1, .int (6 : Int32)), (0, .ref (zad E 1 i))] 58 rfl dX2_init_55 rfl (by decide) (by decide) rfl ?_
  refine zb_goto C 35 dX2_init_58 (by decide) ?_
  refine zb_iload_n C 0 rfl 36 rfl dX2_init_35 ?_
  refine zb_bipush C (6 : Int32) (by decide) 38 rfl dX2_init_36 ?_
  refine zb_geT C 61 dX2_init_38 (by decide) (by decide) ?_
  exact zb_ret C dX2_init_61 rfl rfl rfl
set_option maxHeartbeats 4000000 in
set_option maxRecDepth 100000 in
theorem tbG_init {l : Launch} {E : zE} {z : Nat} {A : Nat → Prop} (hA : zAL E zALC z A) (hz : ∀ q, z + 1 ≤ q → A q) (M : zM) : zCC l yX7_init cX7_init 2 3 141 1891 E zALC z A [.ref (zad E 0 0)] M 1 (bG_init M) 142 := by
  refine zCC_of (by decide) rfl hA hz (by first | decide | exact Nat.le_of_ble_eq_true rfl) (fun p e R s m args below meth c C => ?_)
  have C : zCB p R s m args meth c cX7_init "TwoTrue" E zALC z A 2 3 141 1891 := C
  unfold bG_init
  refine zb_aload_n C 0 rfl 1 rfl dX7_init_0 ?_
  refine zb_obj C 4 rfl dX7_init_1 zw22 zw23 zw24 (by decide) (Nat.le_of_ble_eq_true rfl) ?_
  refine zb_aload_n C 0 rfl 5 rfl dX7_init_4 ?_
  refine zb_new C 8 rfl dX7_init_5 (rfl : zALC[1]? = _) iK2 rfl tyX2 tyX2_ok [.null, .int 0, .int 0, .int 0, .null, .null, .int 0] rfl (fun j hj => by rcases (show j = 0 ∨ j = 1 ∨ j = 2 ∨ j = 3 ∨ j = 4 ∨ j = 5 ∨ j = 6 by omega) with rfl | rfl | rfl | rfl | rfl | rfl | rfl <;> rfl) zw25 zw26 zw2 (by decide) (by decide) (fun M1 hM1 => ?_)
  subst hM1
  refine zb_dup C rfl 9 rfl dX7_init_8 ?_
  refine zb_callI (n2 := 35) C [] 12 rfl dX7_init_9 (tbP_init (i := 0) (n := 2) hA (fun q hq => hz q (by omega)) _ (rfl : zALC[1]? = _) (by decide) (by decide +kernel)) rfl zw29 zw27 zw28 zw2 rfl oX2_init (by decide) (Nat.le_of_ble_eq_true rfl) (by decide) (by decide) (fun M2 hM2 => ?_)
  subst hM2
  refine zb_put (ref := "TwoTrue") (v := (.ref (zad E 1 0))) (x := (1 : Int32)) C 0 15 rfl dX7_init_12 (rfl : zALC[0]? = _) (by decide) iK7 rfl tyX7 tyX7_ok nmX7 _ rfl rfl (by decide) zw230 rfl (Or.inr rfl) rfl rfl (Nat.le_of_ble_eq_true rfl) (fun M3 hM3 => ?_)
  subst hM3
  refine zb_aload_n C 0 rfl 16 rfl dX7_init_15 ?_
  refine zb_new C 19 rfl dX7_init_16 (rfl : zALC[35]? = _) iK2 rfl tyX2 tyX2_ok [.null, .int 0, .int 0, .int 0, .null, .null, .int 0] rfl (fun j hj => by rcases (show j = 0 ∨ j = 1 ∨ j = 2 ∨ j = 3 ∨ j = 4 ∨ j = 5 ∨ j = 6 by omega) with rfl | rfl | rfl | rfl | rfl | rfl | rfl <;> rfl) zw25 zw26 zw2 (by decide) (by decide) (fun M4 hM4 => ?_)
  subst hM4
  refine zb_dup C rfl 20 rfl dX7_init_19 ?_
  refine zb_callI (n2 := 69) C [] 23 rfl dX7_init_20 (tbP_init (i := 1) (n := 36) hA (fun q hq => hz q (by omega)) _ (rfl : zALC[35]? = _) (by decide) (by decide +kernel)) rfl zw29 zw27 zw28 zw2 rfl oX2_init (by decide) (Nat.le_of_ble_eq_true rfl) (by decide) (by decide) (fun M5 hM5 => ?_)
  subst hM5
  refine zb_put (ref := "TwoTrue") (v := (.ref (zad E 1 1))) (x := (1 : Int32)) C 1 26 rfl dX7_init_23 (rfl : zALC[0]? = _) (by decide) iK7 rfl tyX7 tyX7_ok nmX7 _ rfl rfl (by decide) zw231 rfl (Or.inr rfl) rfl rfl (Nat.le_of_ble_eq_true rfl) (fun M6 hM6 => ?_)
  subst hM6
  refine zb_aload_n C 0 rfl 27 rfl dX7_init_26 ?_
  refine zb_new C 30 rfl dX7_init_27 (rfl : zALC[69]? = _) iK2 rfl tyX2 tyX2_ok [.null, .int 0, .int 0, .int 0, .null, .null, .int 0] rfl (fun j hj => by rcases (show j = 0 ∨ j = 1 ∨ j = 2 ∨ j = 3 ∨ j = 4 ∨ j = 5 ∨ j = 6 by omega) with rfl | rfl | rfl | rfl | rfl | rfl | rfl <;> rfl) zw25 zw26 zw2 (by decide) (by decide) (fun M7 hM7 => ?_)
  subst hM7
  refine zb_dup C rfl 31 rfl dX7_init_30 ?_
  refine zb_callI (n2 := 103) C [] 34 rfl dX7_init_31 (tbP_init (i := 2) (n := 70) hA (fun q hq => hz q (by omega)) _ (rfl : zALC[69]? = _) (by decide) (by decide +kernel)) rfl zw29 zw27 zw28 zw2 rfl oX2_init (by decide) (Nat.le_of_ble_eq_true rfl) (by decide) (by decide) (fun M8 hM8 => ?_)
  subst hM8
  refine zb_put (ref := "TwoTrue") (v := (.ref (zad E 1 2))) (x := (1 : Int32)) C 2 37 rfl dX7_init_34 (rfl : zALC[0]? = _) (by decide) iK7 rfl tyX7 tyX7_ok nmX7 _ rfl rfl (by decide) zw232 rfl (Or.inr rfl) rfl rfl (Nat.le_of_ble_eq_true rfl) (fun M9 hM9 => ?_)
  subst hM9
  refine zb_aload_n C 0 rfl 38 rfl dX7_init_37 ?_
  refine zb_new C 41 rfl dX7_init_38 (rfl : zALC[103]? = _) iK6 rfl tyX6 tyX6_ok [.null, .int 0, .int 0, .int 0] rfl (fun j hj => by rcases (show j = 0 ∨ j = 1 ∨ j = 2 ∨ j = 3 by omega) with rfl | rfl | rfl | rfl <;> rfl) zw120 zw121 zw4 (by decide) (by decide) (fun M10 hM10 => ?_)
  subst hM10
  refine zb_dup C rfl 42 rfl dX7_init_41 ?_
  refine zb_callN (n2 := 105) C [] 45 rfl dX7_init_42 (tbT_init (n := 104) hA (fun q hq => hz q (by omega)) _ (rfl : zALC[103]? = _) (by decide) (by decide +kernel)) rfl zw124 (by decide) zw123 zw4 rfl oX6_init (by decide) (Nat.le_of_ble_eq_true rfl) (by decide) (by decide) (fun M11 hM11 => ?_)
  subst hM11
  refine zb_put (ref := "TwoTrue") (v := (.ref (zad E 10 0))) (x := (1 : Int32)) C 4 48 rfl dX7_init_45 (rfl : zALC[0]? = _) (by decide) iK7 rfl tyX7 tyX7_ok nmX7 _ rfl rfl (by decide) zw234 rfl (Or.inr rfl) rfl rfl (Nat.le_of_ble_eq_true rfl) (fun M12 hM12 => ?_)
  subst hM12
  refine zb_aload_n C 0 rfl 49 rfl dX7_init_48 ?_
  refine zb_bipush C (6 : Int32) (by decide) 51 rfl dX7_init_49 ?_
  refine zb_newq C 4 54 rfl dX7_init_51 (rfl : zALC[105]? = _) (by decide) (N := 6) (by decide) (by decide) zw140 C.2.2.2.2.2.2.1.2.2 rfl rfl (by decide) (by decide) (fun M13 hM13 => ?_)
  subst hM13
  refine zb_put (ref := "TwoTrue") (v := (.ref (zad E 12 0))) (x := (1 : Int32)) C 5 57 rfl dX7_init_54 (rfl : zALC[0]? = _) (by decide) iK7 rfl tyX7 tyX7_ok nmX7 _ rfl rfl (by decide) zw235 rfl (Or.inr rfl) rfl rfl (Nat.le_of_ble_eq_true rfl) (fun M14 hM14 => ?_)
  subst hM14
  refine zb_aload_n C 0 rfl 58 rfl dX7_init_57 ?_
  refine zb_new C 61 rfl dX7_init_58 (rfl : zALC[106]? = _) iK1 rfl tyX1 tyX1_ok [.null, .int 0, .null, .int 0] rfl (fun j hj => by rcases (show j = 0 ∨ j = 1 ∨ j = 2 ∨ j = 3 by omega) with rfl | rfl | rfl | rfl <;> rfl) zw140 zw142 zw5 (by decide) (by decide) (fun M15 hM15 => ?_)
  subst hM15
  refine zb_dup C rfl 62 rfl dX7_init_61 ?_
  refine zb_callN (n2 := 109) C [] 65 rfl dX7_init_62 (tbE_init (i := 6) (n := 107) hA (fun q hq => hz q (by omega)) _ (rfl : zALC[106]? = _) (by decide) (by decide +kernel)) rfl zw145 (by decide) zw144 zw5 rfl oX1_init (by decide) (Nat.le_of_ble_eq_true rfl) (by decide) (by decide) (fun M16 hM16 => ?_)
  subst hM16
  refine zb_put (ref := "TwoTrue") (v := (.ref (zad E 13 6))) (x := (1 : Int32)) C 6 68 rfl dX7_init_65 (rfl : zALC[0]? = _) (by decide) iK7 rfl tyX7 tyX7_ok nmX7 _ rfl rfl (by decide) zw236 rfl (Or.inr rfl) rfl rfl (Nat.le_of_ble_eq_true rfl) (fun M17 hM17 => ?_)
  subst hM17
  refine zb_aload_n C 0 rfl 69 rfl dX7_init_68 ?_
  refine zb_new C 72 rfl dX7_init_69 (rfl : zALC[109]? = _) iK4 rfl tyX4 tyX4_ok [.null, .null, .null, .null, .null, .int 0, .int 0] rfl (fun j hj => by rcases (show j = 0 ∨ j = 1 ∨ j = 2 ∨ j = 3 ∨ j = 4 ∨ j = 5 ∨ j = 6 by omega) with rfl | rfl | rfl | rfl | rfl | rfl | rfl <;> rfl) zw163 zw164 zw6 (by decide) (by decide) (fun M18 hM18 => ?_)
  subst hM18
  refine zb_dup C rfl 73 rfl dX7_init_72 ?_
  refine zb_callN (n2 := 115) C [] 76 rfl dX7_init_73 (tbY_init (n := 110) hA (fun q hq => hz q (by omega)) _ (rfl : zALC[109]? = _) (by decide) (by decide +kernel)) rfl zw167 (by decide) zw166 zw6 rfl oX4_init (by decide) (Nat.le_of_ble_eq_true rfl) (by decide) (by decide) (fun M19 hM19 => ?_)
  subst hM19
  refine zb_put (ref := "TwoTrue") (v := (.ref (zad E 16 0))) (x := (1 : Int32)) C 8 79 rfl dX7_init_76 (rfl : zALC[0]? = _) (by decide) iK7 rfl tyX7 tyX7_ok nmX7 _ rfl rfl (by decide) zw238 rfl (Or.inr rfl) rfl rfl (Nat.le_of_ble_eq_true rfl) (fun M20 hM20 => ?_)
  subst hM20
  refine zb_aload_n C 0 rfl 80 rfl dX7_init_79 ?_
  refine zb_bipush C (6 : Int32) (by decide) 82 rfl dX7_init_80 ?_
  refine zb_newa C 0 84 rfl dX7_init_82 rfl (rfl : zALC[115]? = _) (by decide) (N := 6) (by decide) (Nat.le_of_ble_eq_true rfl) zw87 rfl (fun h => h) (6, .inl (fun _ => 0)) rfl (fun _ => rfl) (by decide) (by decide) (fun M21 hM21 => ?_)
  subst hM21
  refine zb_put (ref := "TwoTrue") (v := (.ref (zad E 22 0))) (x := (1 : Int32)) C 9 87 rfl dX7_init_84 (rfl : zALC[0]? = _) (by decide) iK7 rfl tyX7 tyX7_ok nmX7 _ rfl rfl (by decide) zw239 rfl (Or.inr rfl) rfl rfl (Nat.le_of_ble_eq_true rfl) (fun M22 hM22 => ?_)
  subst hM22
  refine zb_aload_n C 0 rfl 88 rfl dX7_init_87 ?_
  refine zb_iconst C (5 : Int32) (by decide) 89 rfl dX7_init_88 ?_
  refine zb_newa C 0 91 rfl dX7_init_89 rfl (rfl : zALC[116]? = _) (by decide) (N := 5) (by decide) (Nat.le_of_ble_eq_true rfl) zw87 rfl (fun h => h) (5, .inl (fun _ => 0)) rfl (fun _ => rfl) (by decide) (by decide) (fun M23 hM23 => ?_)
  subst hM23
  refine zb_put (ref := "TwoTrue") (v := (.ref (zad E 23 0))) (x := (1 : Int32)) C 10 94 rfl dX7_init_91 (rfl : zALC[0]? = _) (by decide) iK7 rfl tyX7 tyX7_ok nmX7 _ rfl rfl (by decide) zw240 rfl (Or.inr rfl) rfl rfl (Nat.le_of_ble_eq_true rfl) (fun M24 hM24 => ?_)
  subst hM24
  refine zb_aload_n C 0 rfl 95 rfl dX7_init_94 ?_
  refine zb_iconst C (5 : Int32) (by decide) 96 rfl dX7_init_95 ?_
  refine zb_newa C 0 98 rfl dX7_init_96 rfl (rfl : zALC[117]? = _) (by decide) (N := 5) (by decide) (Nat.le_of_ble_eq_true rfl) zw87 rfl (fun h => h) (5, .inl (fun _ => 0)) rfl (fun _ => rfl) (by decide) (by decide) (fun M25 hM25 => ?_)
  subst hM25
  refine zb_put (ref := "TwoTrue") (v := (.ref (zad E 24 0))) (x := (1 : Int32)) C 11 101 rfl dX7_init_98 (rfl : zALC[0]? = _) (by decide) iK7 rfl tyX7 tyX7_ok nmX7 _ rfl rfl (by decide) zw241 rfl (Or.inr rfl) rfl rfl (Nat.le_of_ble_eq_true rfl) (fun M26 hM26 => ?_)
  subst hM26
  refine zb_aload_n C 0 rfl 102 rfl dX7_init_101 ?_
  refine zb_new C 105 rfl dX7_init_102 (rfl : zALC[118]? = _) iK0 rfl tyX0 tyX0_ok [.null, .int 0] rfl (fun j hj => by rcases (show j = 0 ∨ j = 1 by omega) with rfl | rfl <;> rfl) zw196 zw197 zw7 (by decide) (by decide) (fun M27 hM27 => ?_)
  subst hM27
  refine zb_dup C rfl 106 rfl dX7_init_105 ?_
  refine zb_callN (n2 := 120) C [] 109 rfl dX7_init_106 (tbA_init (n := 119) hA (fun q hq => hz q (by omega)) _ (rfl : zALC[118]? = _) (by decide) (by decide +kernel)) rfl zw200 (by decide) zw199 zw7 rfl oX0_init (by decide) (Nat.le_of_ble_eq_true rfl) (by decide) (by decide) (fun M28 hM28 => ?_)
  subst hM28
  refine zb_put (ref := "TwoTrue") (v := (.ref (zad E 25 0))) (x := (1 : Int32)) C 12 112 rfl dX7_init_109 (rfl : zALC[0]? = _) (by decide) iK7 rfl tyX7 tyX7_ok nmX7 _ rfl rfl (by decide) zw242 rfl (Or.inr rfl) rfl rfl (Nat.le_of_ble_eq_true rfl) (fun M29 hM29 => ?_)
  subst hM29
  refine zb_aload_n C 0 rfl 113 rfl dX7_init_112 ?_
  refine zb_new C 116 rfl dX7_init_113 (rfl : zALC[120]? = _) iK5 rfl tyX5 tyX5_ok [.null, .null, .null] rfl (fun j hj => by rcases (show j = 0 ∨ j = 1 ∨ j = 2 by omega) with rfl | rfl | rfl <;> rfl) zw211 zw212 zw8 (by decide) (by decide) (fun M30 hM30 => ?_)
  subst hM30
  refine zb_dup C rfl 117 rfl dX7_init_116 ?_
  refine zb_callI (n2 := 124) C [] 120 rfl dX7_init_117 (tbK_init (n := 121) hA (fun q hq => hz q (by omega)) _ (rfl : zALC[120]? = _) (by decide) (by decide +kernel)) rfl zw215 zw213 zw214 zw8 rfl oX5_init (by decide) (Nat.le_of_ble_eq_true rfl) (by decide) (by decide) (fun M31 hM31 => ?_)
  subst hM31
  refine zb_put (ref := "TwoTrue") (v := (.ref (zad E 27 0))) (x := (1 : Int32)) C 13 123 rfl dX7_init_120 (rfl : zALC[0]? = _) (by decide) iK7 rfl tyX7 tyX7_ok nmX7 _ rfl rfl (by decide) zw243 rfl (Or.inr rfl) rfl rfl (Nat.le_of_ble_eq_true rfl) (fun M32 hM32 => ?_)
  subst hM32
  refine zb_iconst C (0 : Int32) (by decide) 124 rfl dX7_init_123 ?_
  refine zb_istore_n C 1 [(1, .int (0 : Int32)), (0, .ref (zad E 0 0))] 125 rfl dX7_init_124 rfl (by decide) rfl ?_
  refine zb_iload_n C 0 rfl 126 rfl dX7_init_125 ?_
  refine zb_bipush C (6 : Int32) (by decide) 128 rfl dX7_init_126 ?_
  refine zb_geF C 150 131 rfl dX7_init_128 (by decide) (by decide) ?_
  refine zb_aload_n C 1 rfl 132 rfl dX7_init_131 ?_
  refine zb_get (ref := "TwoTrue") (v := .ref (zad E 12 0)) C 5 135 rfl dX7_init_132 (rfl : zALC[0]? = _) (by decide) iK7 rfl _ rfl (by decide) zw235 rfl (by show some (zmk _ _) = _; simp [zmk, zset, zclr, znm, bN_init, bE_init, bT_init, bY_init, bA_init, bK_init, bP_init_ne]) ?_
  refine zb_iload_n C 0 rfl 136 rfl dX7_init_135 ?_
  refine zb_new C 139 rfl dX7_init_136 (rfl : zALC[124]? = _) iK1 rfl tyX1 tyX1_ok [.null, .int 0, .null, .int 0] rfl (fun j hj => by rcases (show j = 0 ∨ j = 1 ∨ j = 2 ∨ j = 3 by omega) with rfl | rfl | rfl | rfl <;> rfl) zw140 zw142 zw5 (by decide) (by decide) (fun M33 hM33 => ?_)
  subst hM33
  refine zb_dup C rfl 140 rfl dX7_init_139 ?_
  refine zb_callN (n2 := 127) C [] 143 rfl dX7_init_140 (tbE_init (i := 0) (n := 125) hA (fun q hq => hz q (by omega)) _ (rfl : zALC[124]? = _) (by decide) (by decide +kernel)) rfl zw145 (by decide) zw144 zw5 rfl oX1_init (by decide) (Nat.le_of_ble_eq_true rfl) (by decide) (by decide) (fun M34 hM34 => ?_)
  subst hM34
  refine zb_aast (b := 0) (t0 := 4) C 0 144 rfl dX7_init_143 (rfl : zALC[105]? = _) (by decide) (rfl : zALC[124]? = _) (by decide) (fun _ _ => rfl) rfl rfl rfl (by decide) (by omega) (vp_in_iff.mpr (by decide)) (fun M35 hM35 => ?_)
  subst hM35
  refine zb_iinc C 0 (1 : Int32) [(1, .int (1 : Int32)), (0, .ref (zad E 0 0))] 147 rfl dX7_init_144 rfl (by decide) (by decide) rfl ?_
  refine zb_goto C 125 dX7_init_147 (by decide) ?_
  refine zb_iload_n C 0 rfl 126 rfl dX7_init_125 ?_
  refine zb_bipush C (6 : Int32) (by decide) 128 rfl dX7_init_126 ?_
  refine zb_geF C 150 131 rfl dX7_init_128 (by decide) (by decide) ?_
  refine zb_aload_n C 1 rfl 132 rfl dX7_init_131 ?_
  refine zb_get (ref := "TwoTrue") (v := .ref (zad E 12 0)) C 5 135 rfl dX7_init_132 (rfl : zALC[0]? = _) (by decide) iK7 rfl _ rfl (by decide) zw235 rfl (by show some (zmk _ _) = _; simp [zmk, zset, zclr, znm, bN_init, bE_init, bT_init, bY_init, bA_init, bK_init, bP_init_ne]) ?_
  refine zb_iload_n C 0 rfl 136 rfl dX7_init_135 ?_
  refine zb_new C 139 rfl dX7_init_136 (rfl : zALC[127]? = _) iK1 rfl tyX1 tyX1_ok [.null, .int 0, .null, .int 0] rfl (fun j hj => by rcases (show j = 0 ∨ j = 1 ∨ j = 2 ∨ j = 3 by omega) with rfl | rfl | rfl | rfl <;> rfl) zw140 zw142 zw5 (by decide) (by decide) (fun M36 hM36 => ?_)
  subst hM36
  refine zb_dup C rfl 140 rfl dX7_init_139 ?_
  refine zb_callN (n2 := 130) C [] 143 rfl dX7_init_140 (tbE_init (i := 1) (n := 128) hA (fun q hq => hz q (by omega)) _ (rfl : zALC[127]? = _) (by decide) (by decide +kernel)) rfl zw145 (by decide) zw144 zw5 rfl oX1_init (by decide) (Nat.le_of_ble_eq_true rfl) (by decide) (by decide) (fun M37 hM37 => ?_)
  subst hM37
  refine zb_aast (b := 0) (t0 := 4) C 1 144 rfl dX7_init_143 (rfl : zALC[105]? = _) (by decide) (rfl : zALC[127]? = _) (by decide) (fun _ _ => rfl) rfl rfl rfl (by decide) (by omega) (vp_in_iff.mpr (by decide)) (fun M38 hM38 => ?_)
  subst hM38
  refine zb_iinc C 0 (2 : Int32) [(1, .int (2 : Int32)), (0, .ref (zad E 0 0))] 147 rfl dX7_init_144 rfl (by decide) (by decide) rfl ?_
  refine zb_goto C 125 dX7_init_147 (by decide) ?_
  refine zb_iload_n C 0 rfl 126 rfl dX7_init_125 ?_
  refine zb_bipush C (6 : Int32) (by decide) 128 rfl dX7_init_126 ?_
  refine zb_geF C 150 131 rfl dX7_init_128 (by decide) (by decide) ?_
  refine zb_aload_n C 1 rfl 132 rfl dX7_init_131 ?_
  refine zb_get (ref := "TwoTrue") (v := .ref (zad E 12 0)) C 5 135 rfl dX7_init_132 (rfl : zALC[0]? = _) (by decide) iK7 rfl _ rfl (by decide) zw235 rfl (by show some (zmk _ _) = _; simp [zmk, zset, zclr, znm, bN_init, bE_init, bT_init, bY_init, bA_init, bK_init, bP_init_ne]) ?_
  refine zb_iload_n C 0 rfl 136 rfl dX7_init_135 ?_
  refine zb_new C 139 rfl dX7_init_136 (rfl : zALC[130]? = _) iK1 rfl tyX1 tyX1_ok [.null, .int 0, .null, .int 0] rfl (fun j hj => by rcases (show j = 0 ∨ j = 1 ∨ j = 2 ∨ j = 3 by omega) with rfl | rfl | rfl | rfl <;> rfl) zw140 zw142 zw5 (by decide) (by decide) (fun M39 hM39 => ?_)
  subst hM39
  refine zb_dup C rfl 140 rfl dX7_init_139 ?_
  refine zb_callN (n2 := 133) C [] 143 rfl dX7_init_140 (tbE_init (i := 2) (n := 131) hA (fun q hq => hz q (by omega)) _ (rfl : zALC[130]? = _) (by decide) (by decide +kernel)) rfl zw145 (by decide) zw144 zw5 rfl oX1_init (by decide) (Nat.le_of_ble_eq_true rfl) (by decide) (by decide) (fun M40 hM40 => ?_)
  subst hM40
  refine zb_aast (b := 0) (t0 := 4) C 2 144 rfl dX7_init_143 (rfl : zALC[105]? = _) (by decide) (rfl : zALC[130]? = _) (by decide) (fun _ _ => rfl) rfl rfl rfl (by decide) (by omega) (vp_in_iff.mpr (by decide)) (fun M41 hM41 => ?_)
  subst hM41
  refine zb_iinc C 0 (3 : Int32) [(1, .int (3 : Int32)), (0, .ref (zad E 0 0))] 147 rfl dX7_init_144 rfl (by decide) (by decide) rfl ?_
  refine zb_goto C 125 dX7_init_147 (by decide) ?_
  refine zb_iload_n C 0 rfl 126 rfl dX7_init_125 ?_
  refine zb_bipush C (6 : Int32) (by decide) 128 rfl dX7_init_126 ?_
  refine zb_geF C 150 131 rfl dX7_init_128 (by decide) (by decide) ?_
  refine zb_aload_n C 1 rfl 132 rfl dX7_init_131 ?_
  refine zb_get (ref := "TwoTrue") (v := .ref (zad E 12 0)) C 5 135 rfl dX7_init_132 (rfl : zALC[0]? = _) (by decide) iK7 rfl _ rfl (by decide) zw235 rfl (by show some (zmk _ _) = _; simp [zmk, zset, zclr, znm, bN_init, bE_init, bT_init, bY_init, bA_init, bK_init, bP_init_ne]) ?_
  refine zb_iload_n C 0 rfl 136 rfl dX7_init_135 ?_
  refine zb_new C 139 rfl dX7_init_136 (rfl : zALC[133]? = _) iK1 rfl tyX1 tyX1_ok [.null, .int 0, .null, .int 0] rfl (fun j hj => by rcases (show j = 0 ∨ j = 1 ∨ j = 2 ∨ j = 3 by omega) with rfl | rfl | rfl | rfl <;> rfl) zw140 zw142 zw5 (by decide) (by decide) (fun M42 hM42 => ?_)
  subst hM42
  refine zb_dup C rfl 140 rfl dX7_init_139 ?_
  refine zb_callN (n2 := 136) C [] 143 rfl dX7_init_140 (tbE_init (i := 3) (n := 134) hA (fun q hq => hz q (by omega)) _ (rfl : zALC[133]? = _) (by decide) (by decide +kernel)) rfl zw145 (by decide) zw144 zw5 rfl oX1_init (by decide) (Nat.le_of_ble_eq_true rfl) (by decide) (by decide) (fun M43 hM43 => ?_)
  subst hM43
  refine zb_aast (b := 0) (t0 := 4) C 3 144 rfl dX7_init_143 (rfl : zALC[105]? = _) (by decide) (rfl : zALC[133]? = _) (by decide) (fun _ _ => rfl) rfl rfl rfl (by decide) (by omega) (vp_in_iff.mpr (by decide)) (fun M44 hM44 => ?_)
  subst hM44
  refine zb_iinc C 0 (4 : Int32) [(1, .int (4 : Int32)), (0, .ref (zad E 0 0))] 147 rfl dX7_init_144 rfl (by decide) (by decide) rfl ?_
  refine zb_goto C 125 dX7_init_147 (by decide) ?_
  refine zb_iload_n C 0 rfl 126 rfl dX7_init_125 ?_
  refine zb_bipush C (6 : Int32) (by decide) 128 rfl dX7_init_126 ?_
  refine zb_geF C 150 131 rfl dX7_init_128 (by decide) (by decide) ?_
  refine zb_aload_n C 1 rfl 132 rfl dX7_init_131 ?_
  refine zb_get (ref := "TwoTrue") (v := .ref (zad E 12 0)) C 5 135 rfl dX7_init_132 (rfl : zALC[0]? = _) (by decide) iK7 rfl _ rfl (by decide) zw235 rfl (by show some (zmk _ _) = _; simp [zmk, zset, zclr, znm, bN_init, bE_init, bT_init, bY_init, bA_init, bK_init, bP_init_ne]) ?_
  refine zb_iload_n C 0 rfl 136 rfl dX7_init_135 ?_
  refine zb_new C 139 rfl dX7_init_136 (rfl : zALC[136]? = _) iK1 rfl tyX1 tyX1_ok [.null, .int 0, .null, .int 0] rfl (fun j hj => by rcases (show j = 0 ∨ j = 1 ∨ j = 2 ∨ j = 3 by omega) with rfl | rfl | rfl | rfl <;> rfl) zw140 zw142 zw5 (by decide) (by decide) (fun M45 hM45 => ?_)
  subst hM45
  refine zb_dup C rfl 140 rfl dX7_init_139 ?_
  refine zb_callN (n2 := 139) C [] 143 rfl dX7_init_140 (tbE_init (i := 4) (n := 137) hA (fun q hq => hz q (by omega)) _ (rfl : zALC[136]? = _) (by decide) (by decide +kernel)) rfl zw145 (by decide) zw144 zw5 rfl oX1_init (by decide) (Nat.le_of_ble_eq_true rfl) (by decide) (by decide) (fun M46 hM46 => ?_)
  subst hM46
  refine zb_aast (b := 0) (t0 := 4) C 4 144 rfl dX7_init_143 (rfl : zALC[105]? = _) (by decide) (rfl : zALC[136]? = _) (by decide) (fun _ _ => rfl) rfl rfl rfl (by decide) (by omega) (vp_in_iff.mpr (by decide)) (fun M47 hM47 => ?_)
  subst hM47
  refine zb_iinc C 0 (5 : Int32) [(1, .int (5 : Int32)), (0, .ref (zad E 0 0))] 147 rfl dX7_init_144 rfl (by decide) (by decide) rfl ?_
  refine zb_goto C 125 dX7_init_147 (by decide) ?_
  refine zb_iload_n C 0 rfl 126 rfl dX7_init_125 ?_
  refine zb_bipush C (6 : Int32) (by decide) 128 rfl dX7_init_126 ?_
  refine zb_geF C 150 131 rfl dX7_init_128 (by decide) (by decide) ?_
  refine zb_aload_n C 1 rfl 132 rfl dX7_init_131 ?_
  refine zb_get (ref := "TwoTrue") (v := .ref (zad E 12 0)) C 5 135 rfl dX7_init_132 (rfl : zALC[0]? = _) (by decide) iK7 rfl _ rfl (by decide) zw235 rfl (by show some (zmk _ _) = _; simp [zmk, zset, zclr, znm, bN_init, bE_init, bT_init, bY_init, bA_init, bK_init, bP_init_ne]) ?_
  refine zb_iload_n C 0 rfl 136 rfl dX7_init_135 ?_
  refine zb_new C 139 rfl dX7_init_136 (rfl : zALC[139]? = _) iK1 rfl tyX1 tyX1_ok [.null, .int 0, .null, .int 0] rfl (fun j hj => by rcases (show j = 0 ∨ j = 1 ∨ j = 2 ∨ j = 3 by omega) with rfl | rfl | rfl | rfl <;> rfl) zw140 zw142 zw5 (by decide) (by decide) (fun M48 hM48 => ?_)
  subst hM48
  refine zb_dup C rfl 140 rfl dX7_init_139 ?_
  refine zb_callN (n2 := 142) C [] 143 rfl dX7_init_140 (tbE_init (i := 5) (n := 140) hA (fun q hq => hz q (by omega)) _ (rfl : zALC[139]? = _) (by decide) (by decide +kernel)) rfl zw145 (by decide) zw144 zw5 rfl oX1_init (by decide) (Nat.le_of_ble_eq_true rfl) (by decide) (by decide) (fun M49 hM49 => ?_)
  subst hM49
  refine zb_aast (b := 0) (t0 := 4) C 5 144 rfl dX7_init_143 (rfl : zALC[105]? = _) (by decide) (rfl : zALC[139]? = _) (by decide) (fun _ _ => rfl) rfl rfl rfl (by decide) (by omega) (vp_in_iff.mpr (by decide)) (fun M50 hM50 => ?_)
  subst hM50
  refine zb_iinc C 0 (6 : Int32) [(1, .int (6 : Int32)), (0, .ref (zad E 0 0))] 147 rfl dX7_init_144 rfl (by decide) (by decide) rfl ?_
  refine zb_goto C 125 dX7_init_147 (by decide) ?_
  refine zb_iload_n C 0 rfl 126 rfl dX7_init_125 ?_
  refine zb_bipush C (6 : Int32) (by decide) 128 rfl dX7_init_126 ?_
  refine zb_geT C 150 dX7_init_128 (by decide) (by decide) ?_
  exact zb_ret C dX7_init_150 rfl rfl rfl
set_option maxHeartbeats 4000000 in
set_option maxRecDepth 100000 in
theorem tbM_init {l : Launch} {E : zE} {z : Nat} {A : Nat → Prop} (hA : zAL E zALM z A) (hz : ∀ q, z + 1 ≤ q → A q) (M : zM) : zCC l yX8_init cX8_init 1 1 45 1922 E zALM z A [.ref (zad E 40 0)] M 1 (bM_init M) 46 := by
  refine zCC_of (by decide) rfl hA hz (by first | decide | exact Nat.le_of_ble_eq_true rfl) (fun p e R s m args below meth c C => ?_)
  have C : zCB p R s m args meth c cX8_init "TwoTrueModel" E zALM z A 1 1 45 1922 := C
  unfold bM_init
  refine zb_aload_n C 0 rfl 1 rfl dX8_init_0 ?_
  refine zb_obj C 4 rfl dX8_init_1 zw765 zw23 zw24 (by decide) (Nat.le_of_ble_eq_true rfl) ?_
  refine zb_aload_n C 0 rfl 5 rfl dX8_init_4 ?_
  refine zb_iconst C (0 : Int32) (by decide) 6 rfl dX8_init_5 ?_
  refine zb_put (ref := "TwoTrueModel") (v := (.int (0 : Int32))) (x := (0 : Int32)) C 0 9 rfl dX8_init_6 (rfl : zALM[0]? = _) (by decide) iK8 rfl tyX8 tyX8_ok nmX8 _ rfl rfl (by decide) zw766 rfl (Or.inl rfl) rfl rfl (Nat.le_of_ble_eq_true rfl) (fun M1 hM1 => ?_)
  subst hM1
  refine zb_aload_n C 0 rfl 10 rfl dX8_init_9 ?_
  refine zb_iconst C (0 : Int32) (by decide) 11 rfl dX8_init_10 ?_
  refine zb_put (ref := "TwoTrueModel") (v := (.int (0 : Int32))) (x := (0 : Int32)) C 1 14 rfl dX8_init_11 (rfl : zALM[0]? = _) (by decide) iK8 rfl tyX8 tyX8_ok nmX8 _ rfl rfl (by decide) zw767 rfl (Or.inl rfl) rfl rfl (Nat.le_of_ble_eq_true rfl) (fun M2 hM2 => ?_)
  subst hM2
  refine zb_aload_n C 0 rfl 15 rfl dX8_init_14 ?_
  refine zb_bipush C (6 : Int32) (by decide) 17 rfl dX8_init_15 ?_
  refine zb_newa C 0 19 rfl dX8_init_17 rfl (rfl : zALM[1]? = _) (by decide) (N := 6) (by decide) (Nat.le_of_ble_eq_true rfl) zw87 rfl (fun h => h) (6, .inl (fun _ => 0)) rfl (fun _ => rfl) (by decide) (by decide) (fun M3 hM3 => ?_)
  subst hM3
  refine zb_put (ref := "TwoTrueModel") (v := (.ref (zad E 41 0))) (x := (1 : Int32)) C 2 22 rfl dX8_init_19 (rfl : zALM[0]? = _) (by decide) iK8 rfl tyX8 tyX8_ok nmX8 _ rfl rfl (by decide) zw768 rfl (Or.inr rfl) rfl rfl (Nat.le_of_ble_eq_true rfl) (fun M4 hM4 => ?_)
  subst hM4
  refine zb_aload_n C 0 rfl 23 rfl dX8_init_22 ?_
  refine zb_bipush C (6 : Int32) (by decide) 25 rfl dX8_init_23 ?_
  refine zb_newa C 0 27 rfl dX8_init_25 rfl (rfl : zALM[2]? = _) (by decide) (N := 6) (by decide) (Nat.le_of_ble_eq_true rfl) zw87 rfl (fun h => h) (6, .inl (fun _ => 0)) rfl (fun _ => rfl) (by decide) (by decide) (fun M5 hM5 => ?_)
  subst hM5
  refine zb_put (ref := "TwoTrueModel") (v := (.ref (zad E 42 0))) (x := (1 : Int32)) C 3 30 rfl dX8_init_27 (rfl : zALM[0]? = _) (by decide) iK8 rfl tyX8 tyX8_ok nmX8 _ rfl rfl (by decide) zw769 rfl (Or.inr rfl) rfl rfl (Nat.le_of_ble_eq_true rfl) (fun M6 hM6 => ?_)
  subst hM6
  refine zb_aload_n C 0 rfl 31 rfl dX8_init_30 ?_
  refine zb_bipush C (6 : Int32) (by decide) 33 rfl dX8_init_31 ?_
  refine zb_newa C 0 35 rfl dX8_init_33 rfl (rfl : zALM[3]? = _) (by decide) (N := 6) (by decide) (Nat.le_of_ble_eq_true rfl) zw87 rfl (fun h => h) (6, .inl (fun _ => 0)) rfl (fun _ => rfl) (by decide) (by decide) (fun M7 hM7 => ?_)
  subst hM7
  refine zb_put (ref := "TwoTrueModel") (v := (.ref (zad E 43 0))) (x := (1 : Int32)) C 4 38 rfl dX8_init_35 (rfl : zALM[0]? = _) (by decide) iK8 rfl tyX8 tyX8_ok nmX8 _ rfl rfl (by decide) zw770 rfl (Or.inr rfl) rfl rfl (Nat.le_of_ble_eq_true rfl) (fun M8 hM8 => ?_)
  subst hM8
  refine zb_aload_n C 0 rfl 39 rfl dX8_init_38 ?_
  refine zb_bipush C (6 : Int32) (by decide) 41 rfl dX8_init_39 ?_
  refine zb_newa C 0 43 rfl dX8_init_41 rfl (rfl : zALM[4]? = _) (by decide) (N := 6) (by decide) (Nat.le_of_ble_eq_true rfl) zw87 rfl (fun h => h) (6, .inl (fun _ => 0)) rfl (fun _ => rfl) (by decide) (by decide) (fun M9 hM9 => ?_)
  subst hM9
  refine zb_put (ref := "TwoTrueModel") (v := (.ref (zad E 44 0))) (x := (1 : Int32)) C 5 46 rfl dX8_init_43 (rfl : zALM[0]? = _) (by decide) iK8 rfl tyX8 tyX8_ok nmX8 _ rfl rfl (by decide) zw771 rfl (Or.inr rfl) rfl rfl (Nat.le_of_ble_eq_true rfl) (fun M10 hM10 => ?_)
  subst hM10
  refine zb_aload_n C 0 rfl 47 rfl dX8_init_46 ?_
  refine zb_bipush C (18 : Int32) (by decide) 49 rfl dX8_init_47 ?_
  refine zb_newa C 0 51 rfl dX8_init_49 rfl (rfl : zALM[5]? = _) (by decide) (N := 18) (by decide) (Nat.le_of_ble_eq_true rfl) zw87 rfl (fun h => h) (18, .inl (fun _ => 0)) rfl (fun _ => rfl) (by decide) (by decide) (fun M11 hM11 => ?_)
  subst hM11
  refine zb_put (ref := "TwoTrueModel") (v := (.ref (zad E 45 0))) (x := (1 : Int32)) C 6 54 rfl dX8_init_51 (rfl : zALM[0]? = _) (by decide) iK8 rfl tyX8 tyX8_ok nmX8 _ rfl rfl (by decide) zw772 rfl (Or.inr rfl) rfl rfl (Nat.le_of_ble_eq_true rfl) (fun M12 hM12 => ?_)
  subst hM12
  refine zb_aload_n C 0 rfl 55 rfl dX8_init_54 ?_
  refine zb_bipush C (18 : Int32) (by decide) 57 rfl dX8_init_55 ?_
  refine zb_newa C 0 59 rfl dX8_init_57 rfl (rfl : zALM[6]? = _) (by decide) (N := 18) (by decide) (Nat.le_of_ble_eq_true rfl) zw87 rfl (fun h => h) (18, .inl (fun _ => 0)) rfl (fun _ => rfl) (by decide) (by decide) (fun M13 hM13 => ?_)
  subst hM13
  refine zb_put (ref := "TwoTrueModel") (v := (.ref (zad E 46 0))) (x := (1 : Int32)) C 7 62 rfl dX8_init_59 (rfl : zALM[0]? = _) (by decide) iK8 rfl tyX8 tyX8_ok nmX8 _ rfl rfl (by decide) zw773 rfl (Or.inr rfl) rfl rfl (Nat.le_of_ble_eq_true rfl) (fun M14 hM14 => ?_)
  subst hM14
  refine zb_aload_n C 0 rfl 63 rfl dX8_init_62 ?_
  refine zb_bipush C (18 : Int32) (by decide) 65 rfl dX8_init_63 ?_
  refine zb_newa C 0 67 rfl dX8_init_65 rfl (rfl : zALM[7]? = _) (by decide) (N := 18) (by decide) (Nat.le_of_ble_eq_true rfl) zw87 rfl (fun h => h) (18, .inl (fun _ => 0)) rfl (fun _ => rfl) (by decide) (by decide) (fun M15 hM15 => ?_)
  subst hM15
  refine zb_put (ref := "TwoTrueModel") (v := (.ref (zad E 47 0))) (x := (1 : Int32)) C 8 70 rfl dX8_init_67 (rfl : zALM[0]? = _) (by decide) iK8 rfl tyX8 tyX8_ok nmX8 _ rfl rfl (by decide) zw774 rfl (Or.inr rfl) rfl rfl (Nat.le_of_ble_eq_true rfl) (fun M16 hM16 => ?_)
  subst hM16
  refine zb_aload_n C 0 rfl 71 rfl dX8_init_70 ?_
  refine zb_bipush C (24 : Int32) (by decide) 73 rfl dX8_init_71 ?_
  refine zb_newa C 0 75 rfl dX8_init_73 rfl (rfl : zALM[8]? = _) (by decide) (N := 24) (by decide) (Nat.le_of_ble_eq_true rfl) zw87 rfl (fun h => h) (24, .inl (fun _ => 0)) rfl (fun _ => rfl) (by decide) (by decide) (fun M17 hM17 => ?_)
  subst hM17
  refine zb_put (ref := "TwoTrueModel") (v := (.ref (zad E 48 0))) (x := (1 : Int32)) C 9 78 rfl dX8_init_75 (rfl : zALM[0]? = _) (by decide) iK8 rfl tyX8 tyX8_ok nmX8 _ rfl rfl (by decide) zw775 rfl (Or.inr rfl) rfl rfl (Nat.le_of_ble_eq_true rfl) (fun M18 hM18 => ?_)
  subst hM18
  refine zb_aload_n C 0 rfl 79 rfl dX8_init_78 ?_
  refine zb_iconst C (0 : Int32) (by decide) 80 rfl dX8_init_79 ?_
  refine zb_put (ref := "TwoTrueModel") (v := (.int (0 : Int32))) (x := (0 : Int32)) C 10 83 rfl dX8_init_80 (rfl : zALM[0]? = _) (by decide) iK8 rfl tyX8 tyX8_ok nmX8 _ rfl rfl (by decide) zw776 rfl (Or.inl rfl) rfl rfl (Nat.le_of_ble_eq_true rfl) (fun M19 hM19 => ?_)
  subst hM19
  refine zb_aload_n C 0 rfl 84 rfl dX8_init_83 ?_
  refine zb_iconst C (-1 : Int32) (by decide) 85 rfl dX8_init_84 ?_
  refine zb_put (ref := "TwoTrueModel") (v := (.int (-1 : Int32))) (x := (-1 : Int32)) C 11 88 rfl dX8_init_85 (rfl : zALM[0]? = _) (by decide) iK8 rfl tyX8 tyX8_ok nmX8 _ rfl rfl (by decide) zw777 rfl (Or.inl rfl) rfl rfl (Nat.le_of_ble_eq_true rfl) (fun M20 hM20 => ?_)
  subst hM20
  refine zb_aload_n C 0 rfl 89 rfl dX8_init_88 ?_
  refine zb_iconst C (0 : Int32) (by decide) 90 rfl dX8_init_89 ?_
  refine zb_put (ref := "TwoTrueModel") (v := (.int (0 : Int32))) (x := (0 : Int32)) C 12 93 rfl dX8_init_90 (rfl : zALM[0]? = _) (by decide) iK8 rfl tyX8 tyX8_ok nmX8 _ rfl rfl (by decide) zw778 rfl (Or.inl rfl) rfl rfl (Nat.le_of_ble_eq_true rfl) (fun M21 hM21 => ?_)
  subst hM21
  refine zb_aload_n C 0 rfl 94 rfl dX8_init_93 ?_
  refine zb_iconst C (0 : Int32) (by decide) 95 rfl dX8_init_94 ?_
  refine zb_put (ref := "TwoTrueModel") (v := (.int (0 : Int32))) (x := (0 : Int32)) C 13 98 rfl dX8_init_95 (rfl : zALM[0]? = _) (by decide) iK8 rfl tyX8 tyX8_ok nmX8 _ rfl rfl (by decide) zw779 rfl (Or.inl rfl) rfl rfl (Nat.le_of_ble_eq_true rfl) (fun M22 hM22 => ?_)
  subst hM22
  refine zb_aload_n C 0 rfl 99 rfl dX8_init_98 ?_
  refine zb_iconst C (0 : Int32) (by decide) 100 rfl dX8_init_99 ?_
  refine zb_put (ref := "TwoTrueModel") (v := (.int (0 : Int32))) (x := (0 : Int32)) C 14 103 rfl dX8_init_100 (rfl : zALM[0]? = _) (by decide) iK8 rfl tyX8 tyX8_ok nmX8 _ rfl rfl (by decide) zw780 rfl (Or.inl rfl) rfl rfl (Nat.le_of_ble_eq_true rfl) (fun M23 hM23 => ?_)
  subst hM23
  refine zb_aload_n C 0 rfl 104 rfl dX8_init_103 ?_
  refine zb_bipush C (100 : Int32) (by decide) 106 rfl dX8_init_104 ?_
  refine zb_newa C 0 108 rfl dX8_init_106 rfl (rfl : zALM[9]? = _) (by decide) (N := 100) (by decide) (Nat.le_of_ble_eq_true rfl) zw87 rfl (fun h => h) (100, .inl (fun _ => 0)) rfl (fun _ => rfl) (by decide) (by decide) (fun M24 hM24 => ?_)
  subst hM24
  refine zb_put (ref := "TwoTrueModel") (v := (.ref (zad E 49 0))) (x := (1 : Int32)) C 15 111 rfl dX8_init_108 (rfl : zALM[0]? = _) (by decide) iK8 rfl tyX8 tyX8_ok nmX8 _ rfl rfl (by decide) zw781 rfl (Or.inr rfl) rfl rfl (Nat.le_of_ble_eq_true rfl) (fun M25 hM25 => ?_)
  subst hM25
  refine zb_aload_n C 0 rfl 112 rfl dX8_init_111 ?_
  refine zb_bipush C (6 : Int32) (by decide) 114 rfl dX8_init_112 ?_
  refine zb_newa C 0 116 rfl dX8_init_114 rfl (rfl : zALM[10]? = _) (by decide) (N := 6) (by decide) (Nat.le_of_ble_eq_true rfl) zw87 rfl (fun h => h) (6, .inl (fun _ => 0)) rfl (fun _ => rfl) (by decide) (by decide) (fun M26 hM26 => ?_)
  subst hM26
  refine zb_put (ref := "TwoTrueModel") (v := (.ref (zad E 50 0))) (x := (1 : Int32)) C 16 119 rfl dX8_init_116 (rfl : zALM[0]? = _) (by decide) iK8 rfl tyX8 tyX8_ok nmX8 _ rfl rfl (by decide) zw782 rfl (Or.inr rfl) rfl rfl (Nat.le_of_ble_eq_true rfl) (fun M27 hM27 => ?_)
  subst hM27
  refine zb_aload_n C 0 rfl 120 rfl dX8_init_119 ?_
  refine zb_bipush C (60 : Int32) (by decide) 122 rfl dX8_init_120 ?_
  refine zb_newa C 0 124 rfl dX8_init_122 rfl (rfl : zALM[11]? = _) (by decide) (N := 60) (by decide) (Nat.le_of_ble_eq_true rfl) zw87 rfl (fun h => h) (60, .inl (fun _ => 0)) rfl (fun _ => rfl) (by decide) (by decide) (fun M28 hM28 => ?_)
  subst hM28
  refine zb_put (ref := "TwoTrueModel") (v := (.ref (zad E 51 0))) (x := (1 : Int32)) C 17 127 rfl dX8_init_124 (rfl : zALM[0]? = _) (by decide) iK8 rfl tyX8 tyX8_ok nmX8 _ rfl rfl (by decide) zw783 rfl (Or.inr rfl) rfl rfl (Nat.le_of_ble_eq_true rfl) (fun M29 hM29 => ?_)
  subst hM29
  refine zb_aload_n C 0 rfl 128 rfl dX8_init_127 ?_
  refine zb_bipush C (60 : Int32) (by decide) 130 rfl dX8_init_128 ?_
  refine zb_newa C 0 132 rfl dX8_init_130 rfl (rfl : zALM[12]? = _) (by decide) (N := 60) (by decide) (Nat.le_of_ble_eq_true rfl) zw87 rfl (fun h => h) (60, .inl (fun _ => 0)) rfl (fun _ => rfl) (by decide) (by decide) (fun M30 hM30 => ?_)
  subst hM30
  refine zb_put (ref := "TwoTrueModel") (v := (.ref (zad E 52 0))) (x := (1 : Int32)) C 18 135 rfl dX8_init_132 (rfl : zALM[0]? = _) (by decide) iK8 rfl tyX8 tyX8_ok nmX8 _ rfl rfl (by decide) zw784 rfl (Or.inr rfl) rfl rfl (Nat.le_of_ble_eq_true rfl) (fun M31 hM31 => ?_)
  subst hM31
  refine zb_aload_n C 0 rfl 136 rfl dX8_init_135 ?_
  refine zb_bipush C (60 : Int32) (by decide) 138 rfl dX8_init_136 ?_
  refine zb_newa C 0 140 rfl dX8_init_138 rfl (rfl : zALM[13]? = _) (by decide) (N := 60) (by decide) (Nat.le_of_ble_eq_true rfl) zw87 rfl (fun h => h) (60, .inl (fun _ => 0)) rfl (fun _ => rfl) (by decide) (by decide) (fun M32 hM32 => ?_)
  subst hM32
  refine zb_put (ref := "TwoTrueModel") (v := (.ref (zad E 53 0))) (x := (1 : Int32)) C 19 143 rfl dX8_init_140 (rfl : zALM[0]? = _) (by decide) iK8 rfl tyX8 tyX8_ok nmX8 _ rfl rfl (by decide) zw785 rfl (Or.inr rfl) rfl rfl (Nat.le_of_ble_eq_true rfl) (fun M33 hM33 => ?_)
  subst hM33
  refine zb_aload_n C 0 rfl 144 rfl dX8_init_143 ?_
  refine zb_bipush C (60 : Int32) (by decide) 146 rfl dX8_init_144 ?_
  refine zb_newa C 0 148 rfl dX8_init_146 rfl (rfl : zALM[14]? = _) (by decide) (N := 60) (by decide) (Nat.le_of_ble_eq_true rfl) zw87 rfl (fun h => h) (60, .inl (fun _ => 0)) rfl (fun _ => rfl) (by decide) (by decide) (fun M34 hM34 => ?_)
  subst hM34
  refine zb_put (ref := "TwoTrueModel") (v := (.ref (zad E 54 0))) (x := (1 : Int32)) C 20 151 rfl dX8_init_148 (rfl : zALM[0]? = _) (by decide) iK8 rfl tyX8 tyX8_ok nmX8 _ rfl rfl (by decide) zw786 rfl (Or.inr rfl) rfl rfl (Nat.le_of_ble_eq_true rfl) (fun M35 hM35 => ?_)
  subst hM35
  refine zb_aload_n C 0 rfl 152 rfl dX8_init_151 ?_
  refine zb_sipush C (600 : Int32) (by decide) 155 rfl dX8_init_152 ?_
  refine zb_newa C 0 157 rfl dX8_init_155 rfl (rfl : zALM[15]? = _) (by decide) (N := 600) (by decide) (Nat.le_of_ble_eq_true rfl) zw87 rfl (fun h => h) (600, .inl (fun _ => 0)) rfl (fun _ => rfl) (by decide) (by decide) (fun M36 hM36 => ?_)
  subst hM36
  refine zb_put (ref := "TwoTrueModel") (v := (.ref (zad E 55 0))) (x := (1 : Int32)) C 21 160 rfl dX8_init_157 (rfl : zALM[0]? = _) (by decide) iK8 rfl tyX8 tyX8_ok nmX8 _ rfl rfl (by decide) zw787 rfl (Or.inr rfl) rfl rfl (Nat.le_of_ble_eq_true rfl) (fun M37 hM37 => ?_)
  subst hM37
  refine zb_aload_n C 0 rfl 161 rfl dX8_init_160 ?_
  refine zb_bipush C (101 : Int32) (by decide) 163 rfl dX8_init_161 ?_
  refine zb_newa C 0 165 rfl dX8_init_163 rfl (rfl : zALM[16]? = _) (by decide) (N := 101) (by decide) (Nat.le_of_ble_eq_true rfl) zw87 rfl (fun h => h) (101, .inl (fun _ => 0)) rfl (fun _ => rfl) (by decide) (by decide) (fun M38 hM38 => ?_)
  subst hM38
  refine zb_put (ref := "TwoTrueModel") (v := (.ref (zad E 56 0))) (x := (1 : Int32)) C 22 168 rfl dX8_init_165 (rfl : zALM[0]? = _) (by decide) iK8 rfl tyX8 tyX8_ok nmX8 _ rfl rfl (by decide) zw788 rfl (Or.inr rfl) rfl rfl (Nat.le_of_ble_eq_true rfl) (fun M39 hM39 => ?_)
  subst hM39
  refine zb_aload_n C 0 rfl 169 rfl dX8_init_168 ?_
  refine zb_iconst C (0 : Int32) (by decide) 170 rfl dX8_init_169 ?_
  refine zb_put (ref := "TwoTrueModel") (v := (.int (0 : Int32))) (x := (0 : Int32)) C 23 173 rfl dX8_init_170 (rfl : zALM[0]? = _) (by decide) iK8 rfl tyX8 tyX8_ok nmX8 _ rfl rfl (by decide) zw789 rfl (Or.inl rfl) rfl rfl (Nat.le_of_ble_eq_true rfl) (fun M40 hM40 => ?_)
  subst hM40
  refine zb_aload_n C 0 rfl 174 rfl dX8_init_173 ?_
  refine zb_iconst C (0 : Int32) (by decide) 175 rfl dX8_init_174 ?_
  refine zb_put (ref := "TwoTrueModel") (v := (.int (0 : Int32))) (x := (0 : Int32)) C 24 178 rfl dX8_init_175 (rfl : zALM[0]? = _) (by decide) iK8 rfl tyX8 tyX8_ok nmX8 _ rfl rfl (by decide) zw790 rfl (Or.inl rfl) rfl rfl (Nat.le_of_ble_eq_true rfl) (fun M41 hM41 => ?_)
  subst hM41
  refine zb_aload_n C 0 rfl 179 rfl dX8_init_178 ?_
  refine zb_iconst C (0 : Int32) (by decide) 180 rfl dX8_init_179 ?_
  refine zb_put (ref := "TwoTrueModel") (v := (.int (0 : Int32))) (x := (0 : Int32)) C 25 183 rfl dX8_init_180 (rfl : zALM[0]? = _) (by decide) iK8 rfl tyX8 tyX8_ok nmX8 _ rfl rfl (by decide) zw791 rfl (Or.inl rfl) rfl rfl (Nat.le_of_ble_eq_true rfl) (fun M42 hM42 => ?_)
  subst hM42
  refine zb_aload_n C 0 rfl 184 rfl dX8_init_183 ?_
  refine zb_bipush C (12 : Int32) (by decide) 186 rfl dX8_init_184 ?_
  refine zb_newa C 0 188 rfl dX8_init_186 rfl (rfl : zALM[17]? = _) (by decide) (N := 12) (by decide) (Nat.le_of_ble_eq_true rfl) zw87 rfl (fun h => h) (12, .inl (fun _ => 0)) rfl (fun _ => rfl) (by decide) (by decide) (fun M43 hM43 => ?_)
  subst hM43
  refine zb_dup C rfl 189 rfl dX8_init_188 ?_
  refine zb_iconst C (0 : Int32) (by decide) 190 rfl dX8_init_189 ?_
  refine zb_bipush C (111 : Int32) (by decide) 192 rfl dX8_init_190 ?_
  refine zb_iast C 0 193 rfl dX8_init_192 (rfl : zALM[17]? = _) (by decide) (fun _ _ => rfl) (by decide) (vp_in_iff.mpr (by decide)) (fun M44 hM44 => ?_)
  subst hM44
  refine zb_dup C rfl 194 rfl dX8_init_193 ?_
  refine zb_iconst C (1 : Int32) (by decide) 195 rfl dX8_init_194 ?_
  refine zb_bipush C (100 : Int32) (by decide) 197 rfl dX8_init_195 ?_
  refine zb_iast C 1 198 rfl dX8_init_197 (rfl : zALM[17]? = _) (by decide) (fun _ _ => rfl) (by decide) (vp_in_iff.mpr (by decide)) (fun M45 hM45 => ?_)
  subst hM45
  refine zb_dup C rfl 199 rfl dX8_init_198 ?_
  refine zb_iconst C (2 : Int32) (by decide) 200 rfl dX8_init_199 ?_
  refine zb_bipush C (100 : Int32) (by decide) 202 rfl dX8_init_200 ?_
  refine zb_iast C 2 203 rfl dX8_init_202 (rfl : zALM[17]? = _) (by decide) (fun _ _ => rfl) (by decide) (vp_in_iff.mpr (by decide)) (fun M46 hM46 => ?_)
  subst hM46
  refine zb_dup C rfl 204 rfl dX8_init_203 ?_
  refine zb_iconst C (3 : Int32) (by decide) 205 rfl dX8_init_204 ?_
  refine zb_bipush C (115 : Int32) (by decide) 207 rfl dX8_init_205 ?_
  refine zb_iast C 3 208 rfl dX8_init_207 (rfl : zALM[17]? = _) (by decide) (fun _ _ => rfl) (by decide) (vp_in_iff.mpr (by decide)) (fun M47 hM47 => ?_)
  subst hM47
  refine zb_dup C rfl 209 rfl dX8_init_208 ?_
  refine zb_iconst C (4 : Int32) (by decide) 210 rfl dX8_init_209 ?_
  refine zb_bipush C (117 : Int32) (by decide) 212 rfl dX8_init_210 ?_
  refine zb_iast C 4 213 rfl dX8_init_212 (rfl : zALM[17]? = _) (by decide) (fun _ _ => rfl) (by decide) (vp_in_iff.mpr (by decide)) (fun M48 hM48 => ?_)
  subst hM48
  refine zb_dup C rfl 214 rfl dX8_init_213 ?_
  refine zb_iconst C (5 : Int32) (by decide) 215 rfl dX8_init_214 ?_
  refine zb_bipush C (114 : Int32) (by decide) 217 rfl dX8_init_215 ?_
  refine zb_iast C 5 218 rfl dX8_init_217 (rfl : zALM[17]? = _) (by decide) (fun _ _ => rfl) (by decide) (vp_in_iff.mpr (by decide)) (fun M49 hM49 => ?_)
  subst hM49
  refine zb_dup C rfl 219 rfl dX8_init_218 ?_
  refine zb_bipush C (6 : Int32) (by decide) 221 rfl dX8_init_219 ?_
  refine zb_bipush C (101 : Int32) (by decide) 223 rfl dX8_init_221 ?_
  refine zb_iast C 6 224 rfl dX8_init_223 (rfl : zALM[17]? = _) (by decide) (fun _ _ => rfl) (by decide) (vp_in_iff.mpr (by decide)) (fun M50 hM50 => ?_)
  subst hM50
  refine zb_dup C rfl 225 rfl dX8_init_224 ?_
  refine zb_bipush C (7 : Int32) (by decide) 227 rfl dX8_init_225 ?_
  refine zb_bipush C (104 : Int32) (by decide) 229 rfl dX8_init_227 ?_
  refine zb_iast C 7 230 rfl dX8_init_229 (rfl : zALM[17]? = _) (by decide) (fun _ _ => rfl) (by decide) (vp_in_iff.mpr (by decide)) (fun M51 hM51 => ?_)
  subst hM51
  refine zb_dup C rfl 231 rfl dX8_init_230 ?_
  refine zb_bipush C (8 : Int32) (by decide) 233 rfl dX8_init_231 ?_
  refine zb_bipush C (97 : Int32) (by decide) 235 rfl dX8_init_233 ?_
  refine zb_iast C 8 236 rfl dX8_init_235 (rfl : zALM[17]? = _) (by decide) (fun _ _ => rfl) (by decide) (vp_in_iff.mpr (by decide)) (fun M52 hM52 => ?_)
  subst hM52
  refine zb_dup C rfl 237 rfl dX8_init_236 ?_
  refine zb_bipush C (9 : Int32) (by decide) 239 rfl dX8_init_237 ?_
  refine zb_bipush C (110 : Int32) (by decide) 241 rfl dX8_init_239 ?_
  refine zb_iast C 9 242 rfl dX8_init_241 (rfl : zALM[17]? = _) (by decide) (fun _ _ => rfl) (by decide) (vp_in_iff.mpr (by decide)) (fun M53 hM53 => ?_)
  subst hM53
  refine zb_dup C rfl 243 rfl dX8_init_242 ?_
  refine zb_bipush C (10 : Int32) (by decide) 245 rfl dX8_init_243 ?_
  refine zb_bipush C (100 : Int32) (by decide) 247 rfl dX8_init_245 ?_
  refine zb_iast C 10 248 rfl dX8_init_247 (rfl : zALM[17]? = _) (by decide) (fun _ _ => rfl) (by decide) (vp_in_iff.mpr (by decide)) (fun M54 hM54 => ?_)
  subst hM54
  refine zb_dup C rfl 249 rfl dX8_init_248 ?_
  refine zb_bipush C (11 : Int32) (by decide) 251 rfl dX8_init_249 ?_
  refine zb_bipush C (115 : Int32) (by decide) 253 rfl dX8_init_251 ?_
  refine zb_iast C 11 254 rfl dX8_init_253 (rfl : zALM[17]? = _) (by decide) (fun _ _ => rfl) (by decide) (vp_in_iff.mpr (by decide)) (fun M55 hM55 => ?_)
  subst hM55
  refine zb_put (ref := "TwoTrueModel") (v := (.ref (zad E 57 0))) (x := (1 : Int32)) C 26 257 rfl dX8_init_254 (rfl : zALM[0]? = _) (by decide) iK8 rfl tyX8 tyX8_ok nmX8 _ rfl rfl (by decide) zw792 rfl (Or.inr rfl) rfl rfl (Nat.le_of_ble_eq_true rfl) (fun M56 hM56 => ?_)
  subst hM56
  refine zb_aload_n C 0 rfl 258 rfl dX8_init_257 ?_
  refine zb_bipush C (100 : Int32) (by decide) 260 rfl dX8_init_258 ?_
  refine zb_newa C 2 262 rfl dX8_init_260 rfl (rfl : zALM[18]? = _) (by decide) (N := 100) (by decide) (Nat.le_of_ble_eq_true rfl) zw195 rfl (fun h => h) (100, .inl (fun _ => 0)) rfl (fun _ => rfl) (by decide) (by decide) (fun M57 hM57 => ?_)
  subst hM57
  refine zb_put (ref := "TwoTrueModel") (v := (.ref (zad E 58 0))) (x := (1 : Int32)) C 27 265 rfl dX8_init_262 (rfl : zALM[0]? = _) (by decide) iK8 rfl tyX8 tyX8_ok nmX8 _ rfl rfl (by decide) zw793 rfl (Or.inr rfl) rfl rfl (Nat.le_of_ble_eq_true rfl) (fun M58 hM58 => ?_)
  subst hM58
  refine zb_aload_n C 0 rfl 266 rfl dX8_init_265 ?_
  refine zb_iconst C (3 : Int32) (by decide) 267 rfl dX8_init_266 ?_
  refine zb_newa C 0 269 rfl dX8_init_267 rfl (rfl : zALM[19]? = _) (by decide) (N := 3) (by decide) (Nat.le_of_ble_eq_true rfl) zw87 rfl (fun h => h) (3, .inl (fun _ => 0)) rfl (fun _ => rfl) (by decide) (by decide) (fun M59 hM59 => ?_)
  subst hM59
  refine zb_put (ref := "TwoTrueModel") (v := (.ref (zad E 59 0))) (x := (1 : Int32)) C 28 272 rfl dX8_init_269 (rfl : zALM[0]? = _) (by decide) iK8 rfl tyX8 tyX8_ok nmX8 _ rfl rfl (by decide) zw794 rfl (Or.inr rfl) rfl rfl (Nat.le_of_ble_eq_true rfl) (fun M60 hM60 => ?_)
  subst hM60
  refine zb_aload_n C 0 rfl 273 rfl dX8_init_272 ?_
  refine zb_bipush C (6 : Int32) (by decide) 275 rfl dX8_init_273 ?_
  refine zb_newa C 0 277 rfl dX8_init_275 rfl (rfl : zALM[20]? = _) (by decide) (N := 6) (by decide) (Nat.le_of_ble_eq_true rfl) zw87 rfl (fun h => h) (6, .inl (fun _ => 0)) rfl (fun _ => rfl) (by decide) (by decide) (fun M61 hM61 => ?_)
  subst hM61
  refine zb_put (ref := "TwoTrueModel") (v := (.ref (zad E 60 0))) (x := (1 : Int32)) C 29 280 rfl dX8_init_277 (rfl : zALM[0]? = _) (by decide) iK8 rfl tyX8 tyX8_ok nmX8 _ rfl rfl (by decide) zw795 rfl (Or.inr rfl) rfl rfl (Nat.le_of_ble_eq_true rfl) (fun M62 hM62 => ?_)
  subst hM62
  refine zb_aload_n C 0 rfl 281 rfl dX8_init_280 ?_
  refine zb_iconst C (-1 : Int32) (by decide) 282 rfl dX8_init_281 ?_
  refine zb_put (ref := "TwoTrueModel") (v := (.int (-1 : Int32))) (x := (-1 : Int32)) C 30 285 rfl dX8_init_282 (rfl : zALM[0]? = _) (by decide) iK8 rfl tyX8 tyX8_ok nmX8 _ rfl rfl (by decide) zw796 rfl (Or.inl rfl) rfl rfl (Nat.le_of_ble_eq_true rfl) (fun M63 hM63 => ?_)
  subst hM63
  refine zb_aload_n C 0 rfl 286 rfl dX8_init_285 ?_
  refine zb_iconst C (0 : Int32) (by decide) 287 rfl dX8_init_286 ?_
  refine zb_put (ref := "TwoTrueModel") (v := (.int (0 : Int32))) (x := (0 : Int32)) C 31 290 rfl dX8_init_287 (rfl : zALM[0]? = _) (by decide) iK8 rfl tyX8 tyX8_ok nmX8 _ rfl rfl (by decide) zw797 rfl (Or.inl rfl) rfl rfl (Nat.le_of_ble_eq_true rfl) (fun M64 hM64 => ?_)
  subst hM64
  refine zb_aload_n C 0 rfl 291 rfl dX8_init_290 ?_
  refine zb_iconst C (0 : Int32) (by decide) 292 rfl dX8_init_291 ?_
  refine zb_put (ref := "TwoTrueModel") (v := (.int (0 : Int32))) (x := (0 : Int32)) C 32 295 rfl dX8_init_292 (rfl : zALM[0]? = _) (by decide) iK8 rfl tyX8 tyX8_ok nmX8 _ rfl rfl (by decide) zw798 rfl (Or.inl rfl) rfl rfl (Nat.le_of_ble_eq_true rfl) (fun M65 hM65 => ?_)
  subst hM65
  refine zb_aload_n C 0 rfl 296 rfl dX8_init_295 ?_
  refine zb_bipush C (6 : Int32) (by decide) 298 rfl dX8_init_296 ?_
  refine zb_newa C 0 300 rfl dX8_init_298 rfl (rfl : zALM[21]? = _) (by decide) (N := 6) (by decide) (Nat.le_of_ble_eq_true rfl) zw87 rfl (fun h => h) (6, .inl (fun _ => 0)) rfl (fun _ => rfl) (by decide) (by decide) (fun M66 hM66 => ?_)
  subst hM66
  refine zb_put (ref := "TwoTrueModel") (v := (.ref (zad E 61 0))) (x := (1 : Int32)) C 33 303 rfl dX8_init_300 (rfl : zALM[0]? = _) (by decide) iK8 rfl tyX8 tyX8_ok nmX8 _ rfl rfl (by decide) zw799 rfl (Or.inr rfl) rfl rfl (Nat.le_of_ble_eq_true rfl) (fun M67 hM67 => ?_)
  subst hM67
  refine zb_aload_n C 0 rfl 304 rfl dX8_init_303 ?_
  refine zb_iconst C (4 : Int32) (by decide) 305 rfl dX8_init_304 ?_
  refine zb_newa C 0 307 rfl dX8_init_305 rfl (rfl : zALM[22]? = _) (by decide) (N := 4) (by decide) (Nat.le_of_ble_eq_true rfl) zw87 rfl (fun h => h) (4, .inl (fun _ => 0)) rfl (fun _ => rfl) (by decide) (by decide) (fun M68 hM68 => ?_)
  subst hM68
  refine zb_put (ref := "TwoTrueModel") (v := (.ref (zad E 62 0))) (x := (1 : Int32)) C 34 310 rfl dX8_init_307 (rfl : zALM[0]? = _) (by decide) iK8 rfl tyX8 tyX8_ok nmX8 _ rfl rfl (by decide) zw800 rfl (Or.inr rfl) rfl rfl (Nat.le_of_ble_eq_true rfl) (fun M69 hM69 => ?_)
  subst hM69
  refine zb_aload_n C 0 rfl 311 rfl dX8_init_310 ?_
  refine zb_iconst C (4 : Int32) (by decide) 312 rfl dX8_init_311 ?_
  refine zb_newa C 0 314 rfl dX8_init_312 rfl (rfl : zALM[23]? = _) (by decide) (N := 4) (by decide) (Nat.le_of_ble_eq_true rfl) zw87 rfl (fun h => h) (4, .inl (fun _ => 0)) rfl (fun _ => rfl) (by decide) (by decide) (fun M70 hM70 => ?_)
  subst hM70
  refine zb_put (ref := "TwoTrueModel") (v := (.ref (zad E 63 0))) (x := (1 : Int32)) C 35 317 rfl dX8_init_314 (rfl : zALM[0]? = _) (by decide) iK8 rfl tyX8 tyX8_ok nmX8 _ rfl rfl (by decide) zw801 rfl (Or.inr rfl) rfl rfl (Nat.le_of_ble_eq_true rfl) (fun M71 hM71 => ?_)
  subst hM71
  refine zb_aload_n C 0 rfl 318 rfl dX8_init_317 ?_
  refine zb_iconst C (3 : Int32) (by decide) 319 rfl dX8_init_318 ?_
  refine zb_newa C 0 321 rfl dX8_init_319 rfl (rfl : zALM[24]? = _) (by decide) (N := 3) (by decide) (Nat.le_of_ble_eq_true rfl) zw87 rfl (fun h => h) (3, .inl (fun _ => 0)) rfl (fun _ => rfl) (by decide) (by decide) (fun M72 hM72 => ?_)
  subst hM72
  refine zb_put (ref := "TwoTrueModel") (v := (.ref (zad E 64 0))) (x := (1 : Int32)) C 36 324 rfl dX8_init_321 (rfl : zALM[0]? = _) (by decide) iK8 rfl tyX8 tyX8_ok nmX8 _ rfl rfl (by decide) zw802 rfl (Or.inr rfl) rfl rfl (Nat.le_of_ble_eq_true rfl) (fun M73 hM73 => ?_)
  subst hM73
  refine zb_aload_n C 0 rfl 325 rfl dX8_init_324 ?_
  refine zb_bipush C (6 : Int32) (by decide) 327 rfl dX8_init_325 ?_
  refine zb_newa C 0 329 rfl dX8_init_327 rfl (rfl : zALM[25]? = _) (by decide) (N := 6) (by decide) (Nat.le_of_ble_eq_true rfl) zw87 rfl (fun h => h) (6, .inl (fun _ => 0)) rfl (fun _ => rfl) (by decide) (by decide) (fun M74 hM74 => ?_)
  subst hM74
  refine zb_put (ref := "TwoTrueModel") (v := (.ref (zad E 65 0))) (x := (1 : Int32)) C 37 332 rfl dX8_init_329 (rfl : zALM[0]? = _) (by decide) iK8 rfl tyX8 tyX8_ok nmX8 _ rfl rfl (by decide) zw803 rfl (Or.inr rfl) rfl rfl (Nat.le_of_ble_eq_true rfl) (fun M75 hM75 => ?_)
  subst hM75
  refine zb_aload_n C 0 rfl 333 rfl dX8_init_332 ?_
  refine zb_iconst C (0 : Int32) (by decide) 334 rfl dX8_init_333 ?_
  refine zb_put (ref := "TwoTrueModel") (v := (.int (0 : Int32))) (x := (0 : Int32)) C 38 337 rfl dX8_init_334 (rfl : zALM[0]? = _) (by decide) iK8 rfl tyX8 tyX8_ok nmX8 _ rfl rfl (by decide) zw804 rfl (Or.inl rfl) rfl rfl (Nat.le_of_ble_eq_true rfl) (fun M76 hM76 => ?_)
  subst hM76
  refine zb_aload_n C 0 rfl 338 rfl dX8_init_337 ?_
  refine zb_bipush C (12 : Int32) (by decide) 340 rfl dX8_init_338 ?_
  refine zb_newa C 0 342 rfl dX8_init_340 rfl (rfl : zALM[26]? = _) (by decide) (N := 12) (by decide) (Nat.le_of_ble_eq_true rfl) zw87 rfl (fun h => h) (12, .inl (fun _ => 0)) rfl (fun _ => rfl) (by decide) (by decide) (fun M77 hM77 => ?_)
  subst hM77
  refine zb_put (ref := "TwoTrueModel") (v := (.ref (zad E 66 0))) (x := (1 : Int32)) C 39 345 rfl dX8_init_342 (rfl : zALM[0]? = _) (by decide) iK8 rfl tyX8 tyX8_ok nmX8 _ rfl rfl (by decide) zw805 rfl (Or.inr rfl) rfl rfl (Nat.le_of_ble_eq_true rfl) (fun M78 hM78 => ?_)
  subst hM78
  refine zb_aload_n C 0 rfl 346 rfl dX8_init_345 ?_
  refine zb_bipush C (12 : Int32) (by decide) 348 rfl dX8_init_346 ?_
  refine zb_newa C 0 350 rfl dX8_init_348 rfl (rfl : zALM[27]? = _) (by decide) (N := 12) (by decide) (Nat.le_of_ble_eq_true rfl) zw87 rfl (fun h => h) (12, .inl (fun _ => 0)) rfl (fun _ => rfl) (by decide) (by decide) (fun M79 hM79 => ?_)
  subst hM79
  refine zb_put (ref := "TwoTrueModel") (v := (.ref (zad E 67 0))) (x := (1 : Int32)) C 40 353 rfl dX8_init_350 (rfl : zALM[0]? = _) (by decide) iK8 rfl tyX8 tyX8_ok nmX8 _ rfl rfl (by decide) zw806 rfl (Or.inr rfl) rfl rfl (Nat.le_of_ble_eq_true rfl) (fun M80 hM80 => ?_)
  subst hM80
  refine zb_aload_n C 0 rfl 354 rfl dX8_init_353 ?_
  refine zb_bipush C (12 : Int32) (by decide) 356 rfl dX8_init_354 ?_
  refine zb_newa C 0 358 rfl dX8_init_356 rfl (rfl : zALM[28]? = _) (by decide) (N := 12) (by decide) (Nat.le_of_ble_eq_true rfl) zw87 rfl (fun h => h) (12, .inl (fun _ => 0)) rfl (fun _ => rfl) (by decide) (by decide) (fun M81 hM81 => ?_)
  subst hM81
  refine zb_put (ref := "TwoTrueModel") (v := (.ref (zad E 68 0))) (x := (1 : Int32)) C 41 361 rfl dX8_init_358 (rfl : zALM[0]? = _) (by decide) iK8 rfl tyX8 tyX8_ok nmX8 _ rfl rfl (by decide) zw807 rfl (Or.inr rfl) rfl rfl (Nat.le_of_ble_eq_true rfl) (fun M82 hM82 => ?_)
  subst hM82
  refine zb_aload_n C 0 rfl 362 rfl dX8_init_361 ?_
  refine zb_iconst C (0 : Int32) (by decide) 363 rfl dX8_init_362 ?_
  refine zb_put (ref := "TwoTrueModel") (v := (.int (0 : Int32))) (x := (0 : Int32)) C 42 366 rfl dX8_init_363 (rfl : zALM[0]? = _) (by decide) iK8 rfl tyX8 tyX8_ok nmX8 _ rfl rfl (by decide) zw808 rfl (Or.inl rfl) rfl rfl (Nat.le_of_ble_eq_true rfl) (fun M83 hM83 => ?_)
  subst hM83
  refine zb_aload_n C 0 rfl 367 rfl dX8_init_366 ?_
  refine zb_iconst C (-1 : Int32) (by decide) 368 rfl dX8_init_367 ?_
  refine zb_put (ref := "TwoTrueModel") (v := (.int (-1 : Int32))) (x := (-1 : Int32)) C 43 371 rfl dX8_init_368 (rfl : zALM[0]? = _) (by decide) iK8 rfl tyX8 tyX8_ok nmX8 _ rfl rfl (by decide) zw809 rfl (Or.inl rfl) rfl rfl (Nat.le_of_ble_eq_true rfl) (fun M84 hM84 => ?_)
  subst hM84
  refine zb_aload_n C 0 rfl 372 rfl dX8_init_371 ?_
  refine zb_iconst C (0 : Int32) (by decide) 373 rfl dX8_init_372 ?_
  refine zb_put (ref := "TwoTrueModel") (v := (.int (0 : Int32))) (x := (0 : Int32)) C 44 376 rfl dX8_init_373 (rfl : zALM[0]? = _) (by decide) iK8 rfl tyX8 tyX8_ok nmX8 _ rfl rfl (by decide) zw810 rfl (Or.inl rfl) rfl rfl (Nat.le_of_ble_eq_true rfl) (fun M85 hM85 => ?_)
  subst hM85
  refine zb_aload_n C 0 rfl 377 rfl dX8_init_376 ?_
  refine zb_iconst C (0 : Int32) (by decide) 378 rfl dX8_init_377 ?_
  refine zb_put (ref := "TwoTrueModel") (v := (.int (0 : Int32))) (x := (0 : Int32)) C 45 381 rfl dX8_init_378 (rfl : zALM[0]? = _) (by decide) iK8 rfl tyX8 tyX8_ok nmX8 _ rfl rfl (by decide) zw811 rfl (Or.inl rfl) rfl rfl (Nat.le_of_ble_eq_true rfl) (fun M86 hM86 => ?_)
  subst hM86
  refine zb_aload_n C 0 rfl 382 rfl dX8_init_381 ?_
  refine zb_iconst C (0 : Int32) (by decide) 383 rfl dX8_init_382 ?_
  refine zb_put (ref := "TwoTrueModel") (v := (.int (0 : Int32))) (x := (0 : Int32)) C 46 386 rfl dX8_init_383 (rfl : zALM[0]? = _) (by decide) iK8 rfl tyX8 tyX8_ok nmX8 _ rfl rfl (by decide) zw812 rfl (Or.inl rfl) rfl rfl (Nat.le_of_ble_eq_true rfl) (fun M87 hM87 => ?_)
  subst hM87
  refine zb_aload_n C 0 rfl 387 rfl dX8_init_386 ?_
  refine zb_bipush C (6 : Int32) (by decide) 389 rfl dX8_init_387 ?_
  refine zb_newa C 0 391 rfl dX8_init_389 rfl (rfl : zALM[29]? = _) (by decide) (N := 6) (by decide) (Nat.le_of_ble_eq_true rfl) zw87 rfl (fun h => h) (6, .inl (fun _ => 0)) rfl (fun _ => rfl) (by decide) (by decide) (fun M88 hM88 => ?_)
  subst hM88
  refine zb_put (ref := "TwoTrueModel") (v := (.ref (zad E 69 0))) (x := (1 : Int32)) C 47 394 rfl dX8_init_391 (rfl : zALM[0]? = _) (by decide) iK8 rfl tyX8 tyX8_ok nmX8 _ rfl rfl (by decide) zw813 rfl (Or.inr rfl) rfl rfl (Nat.le_of_ble_eq_true rfl) (fun M89 hM89 => ?_)
  subst hM89
  refine zb_aload_n C 0 rfl 395 rfl dX8_init_394 ?_
  refine zb_bipush C (6 : Int32) (by decide) 397 rfl dX8_init_395 ?_
  refine zb_newa C 0 399 rfl dX8_init_397 rfl (rfl : zALM[30]? = _) (by decide) (N := 6) (by decide) (Nat.le_of_ble_eq_true rfl) zw87 rfl (fun h => h) (6, .inl (fun _ => 0)) rfl (fun _ => rfl) (by decide) (by decide) (fun M90 hM90 => ?_)
  subst hM90
  refine zb_put (ref := "TwoTrueModel") (v := (.ref (zad E 70 0))) (x := (1 : Int32)) C 48 402 rfl dX8_init_399 (rfl : zALM[0]? = _) (by decide) iK8 rfl tyX8 tyX8_ok nmX8 _ rfl rfl (by decide) zw814 rfl (Or.inr rfl) rfl rfl (Nat.le_of_ble_eq_true rfl) (fun M91 hM91 => ?_)
  subst hM91
  refine zb_aload_n C 0 rfl 403 rfl dX8_init_402 ?_
  refine zb_bipush C (6 : Int32) (by decide) 405 rfl dX8_init_403 ?_
  refine zb_newa C 0 407 rfl dX8_init_405 rfl (rfl : zALM[31]? = _) (by decide) (N := 6) (by decide) (Nat.le_of_ble_eq_true rfl) zw87 rfl (fun h => h) (6, .inl (fun _ => 0)) rfl (fun _ => rfl) (by decide) (by decide) (fun M92 hM92 => ?_)
  subst hM92
  refine zb_put (ref := "TwoTrueModel") (v := (.ref (zad E 71 0))) (x := (1 : Int32)) C 49 410 rfl dX8_init_407 (rfl : zALM[0]? = _) (by decide) iK8 rfl tyX8 tyX8_ok nmX8 _ rfl rfl (by decide) zw815 rfl (Or.inr rfl) rfl rfl (Nat.le_of_ble_eq_true rfl) (fun M93 hM93 => ?_)
  subst hM93
  refine zb_aload_n C 0 rfl 411 rfl dX8_init_410 ?_
  refine zb_bipush C (6 : Int32) (by decide) 413 rfl dX8_init_411 ?_
  refine zb_newa C 0 415 rfl dX8_init_413 rfl (rfl : zALM[32]? = _) (by decide) (N := 6) (by decide) (Nat.le_of_ble_eq_true rfl) zw87 rfl (fun h => h) (6, .inl (fun _ => 0)) rfl (fun _ => rfl) (by decide) (by decide) (fun M94 hM94 => ?_)
  subst hM94
  refine zb_put (ref := "TwoTrueModel") (v := (.ref (zad E 72 0))) (x := (1 : Int32)) C 50 418 rfl dX8_init_415 (rfl : zALM[0]? = _) (by decide) iK8 rfl tyX8 tyX8_ok nmX8 _ rfl rfl (by decide) zw816 rfl (Or.inr rfl) rfl rfl (Nat.le_of_ble_eq_true rfl) (fun M95 hM95 => ?_)
  subst hM95
  refine zb_aload_n C 0 rfl 419 rfl dX8_init_418 ?_
  refine zb_bipush C (18 : Int32) (by decide) 421 rfl dX8_init_419 ?_
  refine zb_newa C 0 423 rfl dX8_init_421 rfl (rfl : zALM[33]? = _) (by decide) (N := 18) (by decide) (Nat.le_of_ble_eq_true rfl) zw87 rfl (fun h => h) (18, .inl (fun _ => 0)) rfl (fun _ => rfl) (by decide) (by decide) (fun M96 hM96 => ?_)
  subst hM96
  refine zb_put (ref := "TwoTrueModel") (v := (.ref (zad E 73 0))) (x := (1 : Int32)) C 51 426 rfl dX8_init_423 (rfl : zALM[0]? = _) (by decide) iK8 rfl tyX8 tyX8_ok nmX8 _ rfl rfl (by decide) zw817 rfl (Or.inr rfl) rfl rfl (Nat.le_of_ble_eq_true rfl) (fun M97 hM97 => ?_)
  subst hM97
  refine zb_aload_n C 0 rfl 427 rfl dX8_init_426 ?_
  refine zb_bipush C (18 : Int32) (by decide) 429 rfl dX8_init_427 ?_
  refine zb_newa C 0 431 rfl dX8_init_429 rfl (rfl : zALM[34]? = _) (by decide) (N := 18) (by decide) (Nat.le_of_ble_eq_true rfl) zw87 rfl (fun h => h) (18, .inl (fun _ => 0)) rfl (fun _ => rfl) (by decide) (by decide) (fun M98 hM98 => ?_)
  subst hM98
  refine zb_put (ref := "TwoTrueModel") (v := (.ref (zad E 74 0))) (x := (1 : Int32)) C 52 434 rfl dX8_init_431 (rfl : zALM[0]? = _) (by decide) iK8 rfl tyX8 tyX8_ok nmX8 _ rfl rfl (by decide) zw818 rfl (Or.inr rfl) rfl rfl (Nat.le_of_ble_eq_true rfl) (fun M99 hM99 => ?_)
  subst hM99
  refine zb_aload_n C 0 rfl 435 rfl dX8_init_434 ?_
  refine zb_bipush C (18 : Int32) (by decide) 437 rfl dX8_init_435 ?_
  refine zb_newa C 0 439 rfl dX8_init_437 rfl (rfl : zALM[35]? = _) (by decide) (N := 18) (by decide) (Nat.le_of_ble_eq_true rfl) zw87 rfl (fun h => h) (18, .inl (fun _ => 0)) rfl (fun _ => rfl) (by decide) (by decide) (fun M100 hM100 => ?_)
  subst hM100
  refine zb_put (ref := "TwoTrueModel") (v := (.ref (zad E 75 0))) (x := (1 : Int32)) C 53 442 rfl dX8_init_439 (rfl : zALM[0]? = _) (by decide) iK8 rfl tyX8 tyX8_ok nmX8 _ rfl rfl (by decide) zw819 rfl (Or.inr rfl) rfl rfl (Nat.le_of_ble_eq_true rfl) (fun M101 hM101 => ?_)
  subst hM101
  refine zb_aload_n C 0 rfl 443 rfl dX8_init_442 ?_
  refine zb_bipush C (24 : Int32) (by decide) 445 rfl dX8_init_443 ?_
  refine zb_newa C 0 447 rfl dX8_init_445 rfl (rfl : zALM[36]? = _) (by decide) (N := 24) (by decide) (Nat.le_of_ble_eq_true rfl) zw87 rfl (fun h => h) (24, .inl (fun _ => 0)) rfl (fun _ => rfl) (by decide) (by decide) (fun M102 hM102 => ?_)
  subst hM102
  refine zb_put (ref := "TwoTrueModel") (v := (.ref (zad E 76 0))) (x := (1 : Int32)) C 54 450 rfl dX8_init_447 (rfl : zALM[0]? = _) (by decide) iK8 rfl tyX8 tyX8_ok nmX8 _ rfl rfl (by decide) zw820 rfl (Or.inr rfl) rfl rfl (Nat.le_of_ble_eq_true rfl) (fun M103 hM103 => ?_)
  subst hM103
  refine zb_aload_n C 0 rfl 451 rfl dX8_init_450 ?_
  refine zb_iconst C (3 : Int32) (by decide) 452 rfl dX8_init_451 ?_
  refine zb_newa C 0 454 rfl dX8_init_452 rfl (rfl : zALM[37]? = _) (by decide) (N := 3) (by decide) (Nat.le_of_ble_eq_true rfl) zw87 rfl (fun h => h) (3, .inl (fun _ => 0)) rfl (fun _ => rfl) (by decide) (by decide) (fun M104 hM104 => ?_)
  subst hM104
  refine zb_put (ref := "TwoTrueModel") (v := (.ref (zad E 77 0))) (x := (1 : Int32)) C 55 457 rfl dX8_init_454 (rfl : zALM[0]? = _) (by decide) iK8 rfl tyX8 tyX8_ok nmX8 _ rfl rfl (by decide) zw821 rfl (Or.inr rfl) rfl rfl (Nat.le_of_ble_eq_true rfl) (fun M105 hM105 => ?_)
  subst hM105
  refine zb_aload_n C 0 rfl 458 rfl dX8_init_457 ?_
  refine zb_bipush C (12 : Int32) (by decide) 460 rfl dX8_init_458 ?_
  refine zb_newa C 0 462 rfl dX8_init_460 rfl (rfl : zALM[38]? = _) (by decide) (N := 12) (by decide) (Nat.le_of_ble_eq_true rfl) zw87 rfl (fun h => h) (12, .inl (fun _ => 0)) rfl (fun _ => rfl) (by decide) (by decide) (fun M106 hM106 => ?_)
  subst hM106
  refine zb_put (ref := "TwoTrueModel") (v := (.ref (zad E 78 0))) (x := (1 : Int32)) C 56 465 rfl dX8_init_462 (rfl : zALM[0]? = _) (by decide) iK8 rfl tyX8 tyX8_ok nmX8 _ rfl rfl (by decide) zw822 rfl (Or.inr rfl) rfl rfl (Nat.le_of_ble_eq_true rfl) (fun M107 hM107 => ?_)
  subst hM107
  refine zb_aload_n C 0 rfl 466 rfl dX8_init_465 ?_
  refine zb_bipush C (12 : Int32) (by decide) 468 rfl dX8_init_466 ?_
  refine zb_newa C 0 470 rfl dX8_init_468 rfl (rfl : zALM[39]? = _) (by decide) (N := 12) (by decide) (Nat.le_of_ble_eq_true rfl) zw87 rfl (fun h => h) (12, .inl (fun _ => 0)) rfl (fun _ => rfl) (by decide) (by decide) (fun M108 hM108 => ?_)
  subst hM108
  refine zb_put (ref := "TwoTrueModel") (v := (.ref (zad E 79 0))) (x := (1 : Int32)) C 57 473 rfl dX8_init_470 (rfl : zALM[0]? = _) (by decide) iK8 rfl tyX8 tyX8_ok nmX8 _ rfl rfl (by decide) zw823 rfl (Or.inr rfl) rfl rfl (Nat.le_of_ble_eq_true rfl) (fun M109 hM109 => ?_)
  subst hM109
  refine zb_aload_n C 0 rfl 474 rfl dX8_init_473 ?_
  refine zb_bipush C (12 : Int32) (by decide) 476 rfl dX8_init_474 ?_
  refine zb_newa C 0 478 rfl dX8_init_476 rfl (rfl : zALM[40]? = _) (by decide) (N := 12) (by decide) (Nat.le_of_ble_eq_true rfl) zw87 rfl (fun h => h) (12, .inl (fun _ => 0)) rfl (fun _ => rfl) (by decide) (by decide) (fun M110 hM110 => ?_)
  subst hM110
  refine zb_put (ref := "TwoTrueModel") (v := (.ref (zad E 80 0))) (x := (1 : Int32)) C 58 481 rfl dX8_init_478 (rfl : zALM[0]? = _) (by decide) iK8 rfl tyX8 tyX8_ok nmX8 _ rfl rfl (by decide) zw824 rfl (Or.inr rfl) rfl rfl (Nat.le_of_ble_eq_true rfl) (fun M111 hM111 => ?_)
  subst hM111
  refine zb_aload_n C 0 rfl 482 rfl dX8_init_481 ?_
  refine zb_iconst C (0 : Int32) (by decide) 483 rfl dX8_init_482 ?_
  refine zb_put (ref := "TwoTrueModel") (v := (.int (0 : Int32))) (x := (0 : Int32)) C 59 486 rfl dX8_init_483 (rfl : zALM[0]? = _) (by decide) iK8 rfl tyX8 tyX8_ok nmX8 _ rfl rfl (by decide) zw825 rfl (Or.inl rfl) rfl rfl (Nat.le_of_ble_eq_true rfl) (fun M112 hM112 => ?_)
  subst hM112
  refine zb_aload_n C 0 rfl 487 rfl dX8_init_486 ?_
  refine zb_bipush C (20 : Int32) (by decide) 489 rfl dX8_init_487 ?_
  refine zb_newa C 0 491 rfl dX8_init_489 rfl (rfl : zALM[41]? = _) (by decide) (N := 20) (by decide) (Nat.le_of_ble_eq_true rfl) zw87 rfl (fun h => h) (20, .inl (fun _ => 0)) rfl (fun _ => rfl) (by decide) (by decide) (fun M113 hM113 => ?_)
  subst hM113
  refine zb_put (ref := "TwoTrueModel") (v := (.ref (zad E 81 0))) (x := (1 : Int32)) C 60 494 rfl dX8_init_491 (rfl : zALM[0]? = _) (by decide) iK8 rfl tyX8 tyX8_ok nmX8 _ rfl rfl (by decide) zw826 rfl (Or.inr rfl) rfl rfl (Nat.le_of_ble_eq_true rfl) (fun M114 hM114 => ?_)
  subst hM114
  refine zb_aload_n C 0 rfl 495 rfl dX8_init_494 ?_
  refine zb_bipush C (6 : Int32) (by decide) 497 rfl dX8_init_495 ?_
  refine zb_newa C 0 499 rfl dX8_init_497 rfl (rfl : zALM[42]? = _) (by decide) (N := 6) (by decide) (Nat.le_of_ble_eq_true rfl) zw87 rfl (fun h => h) (6, .inl (fun _ => 0)) rfl (fun _ => rfl) (by decide) (by decide) (fun M115 hM115 => ?_)
  subst hM115
  refine zb_dup C rfl 500 rfl dX8_init_499 ?_
  refine zb_iconst C (0 : Int32) (by decide) 501 rfl dX8_init_500 ?_
  refine zb_iconst C (-1 : Int32) (by decide) 502 rfl dX8_init_501 ?_
  refine zb_iast C 0 503 rfl dX8_init_502 (rfl : zALM[42]? = _) (by decide) (fun _ _ => rfl) (by decide) (vp_in_iff.mpr (by decide)) (fun M116 hM116 => ?_)
  subst hM116
  refine zb_dup C rfl 504 rfl dX8_init_503 ?_
  refine zb_iconst C (1 : Int32) (by decide) 505 rfl dX8_init_504 ?_
  refine zb_iconst C (-1 : Int32) (by decide) 506 rfl dX8_init_505 ?_
  refine zb_iast C 1 507 rfl dX8_init_506 (rfl : zALM[42]? = _) (by decide) (fun _ _ => rfl) (by decide) (vp_in_iff.mpr (by decide)) (fun M117 hM117 => ?_)
  subst hM117
  refine zb_dup C rfl 508 rfl dX8_init_507 ?_
  refine zb_iconst C (2 : Int32) (by decide) 509 rfl dX8_init_508 ?_
  refine zb_iconst C (-1 : Int32) (by decide) 510 rfl dX8_init_509 ?_
  refine zb_iast C 2 511 rfl dX8_init_510 (rfl : zALM[42]? = _) (by decide) (fun _ _ => rfl) (by decide) (vp_in_iff.mpr (by decide)) (fun M118 hM118 => ?_)
  subst hM118
  refine zb_dup C rfl 512 rfl dX8_init_511 ?_
  refine zb_iconst C (3 : Int32) (by decide) 513 rfl dX8_init_512 ?_
  refine zb_iconst C (-1 : Int32) (by decide) 514 rfl dX8_init_513 ?_
  refine zb_iast C 3 515 rfl dX8_init_514 (rfl : zALM[42]? = _) (by decide) (fun _ _ => rfl) (by decide) (vp_in_iff.mpr (by decide)) (fun M119 hM119 => ?_)
  subst hM119
  refine zb_dup C rfl 516 rfl dX8_init_515 ?_
  refine zb_iconst C (4 : Int32) (by decide) 517 rfl dX8_init_516 ?_
  refine zb_iconst C (-1 : Int32) (by decide) 518 rfl dX8_init_517 ?_
  refine zb_iast C 4 519 rfl dX8_init_518 (rfl : zALM[42]? = _) (by decide) (fun _ _ => rfl) (by decide) (vp_in_iff.mpr (by decide)) (fun M120 hM120 => ?_)
  subst hM120
  refine zb_dup C rfl 520 rfl dX8_init_519 ?_
  refine zb_iconst C (5 : Int32) (by decide) 521 rfl dX8_init_520 ?_
  refine zb_iconst C (-1 : Int32) (by decide) 522 rfl dX8_init_521 ?_
  refine zb_iast C 5 523 rfl dX8_init_522 (rfl : zALM[42]? = _) (by decide) (fun _ _ => rfl) (by decide) (vp_in_iff.mpr (by decide)) (fun M121 hM121 => ?_)
  subst hM121
  refine zb_put (ref := "TwoTrueModel") (v := (.ref (zad E 82 0))) (x := (1 : Int32)) C 61 526 rfl dX8_init_523 (rfl : zALM[0]? = _) (by decide) iK8 rfl tyX8 tyX8_ok nmX8 _ rfl rfl (by decide) zw827 rfl (Or.inr rfl) rfl rfl (Nat.le_of_ble_eq_true rfl) (fun M122 hM122 => ?_)
  subst hM122
  refine zb_aload_n C 0 rfl 527 rfl dX8_init_526 ?_
  refine zb_bipush C (6 : Int32) (by decide) 529 rfl dX8_init_527 ?_
  refine zb_newa C 0 531 rfl dX8_init_529 rfl (rfl : zALM[43]? = _) (by decide) (N := 6) (by decide) (Nat.le_of_ble_eq_true rfl) zw87 rfl (fun h => h) (6, .inl (fun _ => 0)) rfl (fun _ => rfl) (by decide) (by decide) (fun M123 hM123 => ?_)
  subst hM123
  refine zb_put (ref := "TwoTrueModel") (v := (.ref (zad E 83 0))) (x := (1 : Int32)) C 62 534 rfl dX8_init_531 (rfl : zALM[0]? = _) (by decide) iK8 rfl tyX8 tyX8_ok nmX8 _ rfl rfl (by decide) zw828 rfl (Or.inr rfl) rfl rfl (Nat.le_of_ble_eq_true rfl) (fun M124 hM124 => ?_)
  subst hM124
  refine zb_aload_n C 0 rfl 535 rfl dX8_init_534 ?_
  refine zb_sipush C (360 : Int32) (by decide) 538 rfl dX8_init_535 ?_
  refine zb_newa C 1 540 rfl dX8_init_538 rfl (rfl : zALM[44]? = _) (by decide) (N := 360) (by decide) (Nat.le_of_ble_eq_true rfl) zw229 rfl (fun h => h) (360, .inr (.inl (fun _ => 0))) rfl (fun _ => rfl) (by decide) (by decide) (fun M125 hM125 => ?_)
  subst hM125
  refine zb_put (ref := "TwoTrueModel") (v := (.ref (zad E 84 0))) (x := (1 : Int32)) C 63 543 rfl dX8_init_540 (rfl : zALM[0]? = _) (by decide) iK8 rfl tyX8 tyX8_ok nmX8 _ rfl rfl (by decide) zw829 rfl (Or.inr rfl) rfl rfl (Nat.le_of_ble_eq_true rfl) (fun M126 hM126 => ?_)
  subst hM126
  refine zb_aload_n C 0 rfl 544 rfl dX8_init_543 ?_
  refine zb_bipush C (60 : Int32) (by decide) 546 rfl dX8_init_544 ?_
  refine zb_newa C 1 548 rfl dX8_init_546 rfl (rfl : zALM[45]? = _) (by decide) (N := 60) (by decide) (Nat.le_of_ble_eq_true rfl) zw229 rfl (fun h => h) (60, .inr (.inl (fun _ => 0))) rfl (fun _ => rfl) (by decide) (by decide) (fun M127 hM127 => ?_)
  subst hM127
  refine zb_put (ref := "TwoTrueModel") (v := (.ref (zad E 85 0))) (x := (1 : Int32)) C 64 551 rfl dX8_init_548 (rfl : zALM[0]? = _) (by decide) iK8 rfl tyX8 tyX8_ok nmX8 _ rfl rfl (by decide) zw830 rfl (Or.inr rfl) rfl rfl (Nat.le_of_ble_eq_true rfl) (fun M128 hM128 => ?_)
  subst hM128
  exact zb_ret C dX8_init_551 rfl rfl rfl
