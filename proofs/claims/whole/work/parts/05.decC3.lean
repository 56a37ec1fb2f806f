theorem dX7_odds_0 : decode cX7_odds 0 = .ok (.aload_n 0, 1) := by decide +kernel
theorem dX7_odds_1 : decode cX7_odds 1 = .ok (.getfield 12, 3) := by decide +kernel
theorem dX7_odds_4 : decode cX7_odds 4 = .ok (.iload_n 1, 1) := by decide +kernel
theorem dX7_odds_5 : decode cX7_odds 5 = .ok (.invokevirtual 81, 3) := by decide +kernel
theorem dX7_odds_8 : decode cX7_odds 8 = .ok (.ifCond .eq 12, 3) := by decide +kernel
theorem dX7_odds_11 : decode cX7_odds 11 = .ok (.iload_n 2, 1) := by decide +kernel
theorem dX7_odds_12 : decode cX7_odds 12 = .ok (.ifCond .lt 8, 3) := by decide +kernel
theorem dX7_odds_15 : decode cX7_odds 15 = .ok (.iload_n 2, 1) := by decide +kernel
theorem dX7_odds_16 : decode cX7_odds 16 = .ok (.iconst 1, 1) := by decide +kernel
theorem dX7_odds_17 : decode cX7_odds 17 = .ok (.if_icmp .le 7, 3) := by decide +kernel
theorem dX7_odds_20 : decode cX7_odds 20 = .ok (.ldc2_w 207, 3) := by decide +kernel
theorem dX7_odds_23 : decode cX7_odds 23 = .ok (.lreturn, 1) := by decide +kernel
theorem dX7_odds_24 : decode cX7_odds 24 = .ok (.iconst 0, 1) := by decide +kernel
theorem dX7_odds_25 : decode cX7_odds 25 = .ok (.istore_n 3, 1) := by decide +kernel
theorem dX7_odds_26 : decode cX7_odds 26 = .ok (.iconst 0, 1) := by decide +kernel
theorem dX7_odds_27 : decode cX7_odds 27 = .ok (.istore 4, 2) := by decide +kernel
theorem dX7_odds_29 : decode cX7_odds 29 = .ok (.iload 4, 2) := by decide +kernel
theorem dX7_odds_31 : decode cX7_odds 31 = .ok (.iconst 3, 1) := by decide +kernel
theorem dX7_odds_32 : decode cX7_odds 32 = .ok (.if_icmp .ge 68, 3) := by decide +kernel
theorem dX7_odds_35 : decode cX7_odds 35 = .ok (.aload_n 0, 1) := by decide +kernel
theorem dX7_odds_36 : decode cX7_odds 36 = .ok (.getfield 21, 3) := by decide +kernel
theorem dX7_odds_39 : decode cX7_odds 39 = .ok (.aload_n 0, 1) := by decide +kernel
theorem dX7_odds_40 : decode cX7_odds 40 = .ok (.getfield 12, 3) := by decide +kernel
theorem dX7_odds_43 : decode cX7_odds 43 = .ok (.invokevirtual 160, 3) := by decide +kernel
theorem dX7_odds_46 : decode cX7_odds 46 = .ok (.aload_n 0, 1) := by decide +kernel
theorem dX7_odds_47 : decode cX7_odds 47 = .ok (.getfield 21, 3) := by decide +kernel
theorem dX7_odds_50 : decode cX7_odds 50 = .ok (.getfield 88, 3) := by decide +kernel
theorem dX7_odds_53 : decode cX7_odds 53 = .ok (.iload_n 1, 1) := by decide +kernel
theorem dX7_odds_54 : decode cX7_odds 54 = .ok (.aaload, 1) := by decide +kernel
theorem dX7_odds_55 : decode cX7_odds 55 = .ok (.getfield 92, 3) := by decide +kernel
theorem dX7_odds_58 : decode cX7_odds 58 = .ok (.iload 4, 2) := by decide +kernel
theorem dX7_odds_60 : decode cX7_odds 60 = .ok (.bipush 50, 2) := by decide +kernel
theorem dX7_odds_62 : decode cX7_odds 62 = .ok (.iastore, 1) := by decide +kernel
theorem dX7_odds_63 : decode cX7_odds 63 = .ok (.aload_n 0, 1) := by decide +kernel
theorem dX7_odds_64 : decode cX7_odds 64 = .ok (.aload_n 0, 1) := by decide +kernel
theorem dX7_odds_65 : decode cX7_odds 65 = .ok (.getfield 21, 3) := by decide +kernel
theorem dX7_odds_68 : decode cX7_odds 68 = .ok (.iload_n 1, 1) := by decide +kernel
theorem dX7_odds_69 : decode cX7_odds 69 = .ok (.invokevirtual 151, 3) := by decide +kernel
theorem dX7_odds_72 : decode cX7_odds 72 = .ok (.istore 5, 2) := by decide +kernel
theorem dX7_odds_74 : decode cX7_odds 74 = .ok (.iload 5, 2) := by decide +kernel
theorem dX7_odds_76 : decode cX7_odds 76 = .ok (.aload_n 0, 1) := by decide +kernel
theorem dX7_odds_77 : decode cX7_odds 77 = .ok (.getfield 12, 3) := by decide +kernel
theorem dX7_odds_80 : decode cX7_odds 80 = .ok (.getfield 73, 3) := by decide +kernel
theorem dX7_odds_83 : decode cX7_odds 83 = .ok (.iconst 1, 1) := by decide +kernel
theorem dX7_odds_84 : decode cX7_odds 84 = .ok (.isub, 1) := by decide +kernel
theorem dX7_odds_85 : decode cX7_odds 85 = .ok (.iload 5, 2) := by decide +kernel
theorem dX7_odds_87 : decode cX7_odds 87 = .ok (.isub, 1) := by decide +kernel
theorem dX7_odds_88 : decode cX7_odds 88 = .ok (.if_icmp .le 6, 3) := by decide +kernel
theorem dX7_odds_91 : decode cX7_odds 91 = .ok (.iinc 3 1, 3) := by decide +kernel
theorem dX7_odds_94 : decode cX7_odds 94 = .ok (.iinc 4 1, 3) := by decide +kernel
theorem dX7_odds_97 : decode cX7_odds 97 = .ok (.goto (-68), 3) := by decide +kernel
theorem dX7_odds_100 : decode cX7_odds 100 = .ok (.iload_n 3, 1) := by decide +kernel
theorem dX7_odds_101 : decode cX7_odds 101 = .ok (.iconst 3, 1) := by decide +kernel
theorem dX7_odds_102 : decode cX7_odds 102 = .ok (.iload_n 2, 1) := by decide +kernel
theorem dX7_odds_103 : decode cX7_odds 103 = .ok (.invokestatic 209, 3) := by decide +kernel
theorem dX7_odds_106 : decode cX7_odds 106 = .ok (.lreturn, 1) := by decide +kernel
theorem oG_odds : zok yX7_odds 2 := by decide +kernel
theorem dX7_partOfFraction_0 : decode cX7_partOfFraction 0 = .ok (.iconst 1, 1) := by decide +kernel
theorem dX7_partOfFraction_1 : decode cX7_partOfFraction 1 = .ok (.istore_n 3, 1) := by decide +kernel
theorem dX7_partOfFraction_2 : decode cX7_partOfFraction 2 = .ok (.iconst 2, 1) := by decide +kernel
theorem dX7_partOfFraction_3 : decode cX7_partOfFraction 3 = .ok (.istore 4, 2) := by decide +kernel
theorem dX7_partOfFraction_5 : decode cX7_partOfFraction 5 = .ok (.iload 4, 2) := by decide +kernel
theorem dX7_partOfFraction_7 : decode cX7_partOfFraction 7 = .ok (.iload_n 1, 1) := by decide +kernel
theorem dX7_partOfFraction_8 : decode cX7_partOfFraction 8 = .ok (.if_icmp .gt 26, 3) := by decide +kernel
theorem dX7_partOfFraction_11 : decode cX7_partOfFraction 11 = .ok (.iload_n 0, 1) := by decide +kernel
theorem dX7_partOfFraction_12 : decode cX7_partOfFraction 12 = .ok (.iload 4, 2) := by decide +kernel
theorem dX7_partOfFraction_14 : decode cX7_partOfFraction 14 = .ok (.irem, 1) := by decide +kernel
theorem dX7_partOfFraction_15 : decode cX7_partOfFraction 15 = .ok (.ifCond .ne 13, 3) := by decide +kernel
theorem dX7_partOfFraction_18 : decode cX7_partOfFraction 18 = .ok (.iload_n 1, 1) := by decide +kernel
theorem dX7_partOfFraction_19 : decode cX7_partOfFraction 19 = .ok (.iload 4, 2) := by decide +kernel
theorem dX7_partOfFraction_21 : decode cX7_partOfFraction 21 = .ok (.irem, 1) := by decide +kernel
theorem dX7_partOfFraction_22 : decode cX7_partOfFraction 22 = .ok (.ifCond .ne 6, 3) := by decide +kernel
theorem dX7_partOfFraction_25 : decode cX7_partOfFraction 25 = .ok (.iload 4, 2) := by decide +kernel
theorem dX7_partOfFraction_27 : decode cX7_partOfFraction 27 = .ok (.istore_n 3, 1) := by decide +kernel
theorem dX7_partOfFraction_28 : decode cX7_partOfFraction 28 = .ok (.iinc 4 1, 3) := by decide +kernel
theorem dX7_partOfFraction_31 : decode cX7_partOfFraction 31 = .ok (.goto (-26), 3) := by decide +kernel
theorem dX7_partOfFraction_34 : decode cX7_partOfFraction 34 = .ok (.iload_n 2, 1) := by decide +kernel
theorem dX7_partOfFraction_35 : decode cX7_partOfFraction 35 = .ok (.ifCond .ne 7, 3) := by decide +kernel
theorem dX7_partOfFraction_38 : decode cX7_partOfFraction 38 = .ok (.iload_n 0, 1) := by decide +kernel
theorem dX7_partOfFraction_39 : decode cX7_partOfFraction 39 = .ok (.goto 4, 3) := by decide +kernel
theorem dX7_partOfFraction_42 : decode cX7_partOfFraction 42 = .ok (.iload_n 1, 1) := by decide +kernel
theorem dX7_partOfFraction_43 : decode cX7_partOfFraction 43 = .ok (.iload_n 3, 1) := by decide +kernel
theorem dX7_partOfFraction_44 : decode cX7_partOfFraction 44 = .ok (.idiv, 1) := by decide +kernel
theorem dX7_partOfFraction_45 : decode cX7_partOfFraction 45 = .ok (.i2l, 1) := by decide +kernel
theorem dX7_partOfFraction_46 : decode cX7_partOfFraction 46 = .ok (.lreturn, 1) := by decide +kernel
theorem oG_partOfFraction : zok yX7_partOfFraction 3 := by decide +kernel
theorem dX7_mean_0 : decode cX7_mean 0 = .ok (.aload_n 0, 1) := by decide +kernel
theorem dX7_mean_1 : decode cX7_mean 1 = .ok (.getfield 12, 3) := by decide +kernel
theorem dX7_mean_4 : decode cX7_mean 4 = .ok (.getfield 73, 3) := by decide +kernel
theorem dX7_mean_7 : decode cX7_mean 7 = .ok (.ifCond .eq 12, 3) := by decide +kernel
theorem dX7_mean_10 : decode cX7_mean 10 = .ok (.iload_n 1, 1) := by decide +kernel
theorem dX7_mean_11 : decode cX7_mean 11 = .ok (.ifCond .lt 8, 3) := by decide +kernel
theorem dX7_mean_14 : decode cX7_mean 14 = .ok (.iload_n 1, 1) := by decide +kernel
theorem dX7_mean_15 : decode cX7_mean 15 = .ok (.iconst 1, 1) := by decide +kernel
theorem dX7_mean_16 : decode cX7_mean 16 = .ok (.if_icmp .le 7, 3) := by decide +kernel
theorem dX7_mean_19 : decode cX7_mean 19 = .ok (.ldc2_w 207, 3) := by decide +kernel
theorem dX7_mean_22 : decode cX7_mean 22 = .ok (.lreturn, 1) := by decide +kernel
theorem dX7_mean_23 : decode cX7_mean 23 = .ok (.iconst 0, 1) := by decide +kernel
theorem dX7_mean_24 : decode cX7_mean 24 = .ok (.istore_n 2, 1) := by decide +kernel
theorem dX7_mean_25 : decode cX7_mean 25 = .ok (.iconst 0, 1) := by decide +kernel
theorem dX7_mean_26 : decode cX7_mean 26 = .ok (.istore_n 3, 1) := by decide +kernel
theorem dX7_mean_27 : decode cX7_mean 27 = .ok (.iload_n 3, 1) := by decide +kernel
theorem dX7_mean_28 : decode cX7_mean 28 = .ok (.aload_n 0, 1) := by decide +kernel
theorem dX7_mean_29 : decode cX7_mean 29 = .ok (.getfield 12, 3) := by decide +kernel
theorem dX7_mean_32 : decode cX7_mean 32 = .ok (.getfield 73, 3) := by decide +kernel
theorem dX7_mean_35 : decode cX7_mean 35 = .ok (.if_icmp .ge 21, 3) := by decide +kernel
theorem dX7_mean_38 : decode cX7_mean 38 = .ok (.iload_n 2, 1) := by decide +kernel
theorem dX7_mean_39 : decode cX7_mean 39 = .ok (.aload_n 0, 1) := by decide +kernel
theorem dX7_mean_40 : decode cX7_mean 40 = .ok (.aload_n 0, 1) := by decide +kernel
theorem dX7_mean_41 : decode cX7_mean 41 = .ok (.getfield 12, 3) := by decide +kernel
theorem dX7_mean_44 : decode cX7_mean 44 = .ok (.iload_n 3, 1) := by decide +kernel
theorem dX7_mean_45 : decode cX7_mean 45 = .ok (.invokevirtual 151, 3) := by decide +kernel
theorem dX7_mean_48 : decode cX7_mean 48 = .ok (.iadd, 1) := by decide +kernel
theorem dX7_mean_49 : decode cX7_mean 49 = .ok (.istore_n 2, 1) := by decide +kernel
theorem dX7_mean_50 : decode cX7_mean 50 = .ok (.iinc 3 1, 3) := by decide +kernel
theorem dX7_mean_53 : decode cX7_mean 53 = .ok (.goto (-26), 3) := by decide +kernel
theorem dX7_mean_56 : decode cX7_mean 56 = .ok (.iload_n 2, 1) := by decide +kernel
theorem dX7_mean_57 : decode cX7_mean 57 = .ok (.aload_n 0, 1) := by decide +kernel
theorem dX7_mean_58 : decode cX7_mean 58 = .ok (.getfield 12, 3) := by decide +kernel
theorem dX7_mean_61 : decode cX7_mean 61 = .ok (.getfield 73, 3) := by decide +kernel
theorem dX7_mean_64 : decode cX7_mean 64 = .ok (.iload_n 1, 1) := by decide +kernel
theorem dX7_mean_65 : decode cX7_mean 65 = .ok (.invokestatic 209, 3) := by decide +kernel
theorem dX7_mean_68 : decode cX7_mean 68 = .ok (.lreturn, 1) := by decide +kernel
theorem oG_mean : zok yX7_mean 1 := by decide +kernel
theorem dX7_book_0 : decode cX7_book 0 = .ok (.iload_n 1, 1) := by decide +kernel
theorem dX7_book_1 : decode cX7_book 1 = .ok (.iconst (-1), 1) := by decide +kernel
theorem dX7_book_2 : decode cX7_book 2 = .ok (.if_icmp .ne 13, 3) := by decide +kernel
theorem dX7_book_5 : decode cX7_book 5 = .ok (.aload_n 0, 1) := by decide +kernel
theorem dX7_book_6 : decode cX7_book 6 = .ok (.getfield 12, 3) := by decide +kernel
theorem dX7_book_9 : decode cX7_book 9 = .ok (.iconst 0, 1) := by decide +kernel
theorem dX7_book_10 : decode cX7_book 10 = .ok (.putfield 213, 3) := by decide +kernel
theorem dX7_book_13 : decode cX7_book 13 = .ok (.iconst 0, 1) := by decide +kernel
theorem dX7_book_14 : decode cX7_book 14 = .ok (.ireturn, 1) := by decide +kernel
theorem dX7_book_15 : decode cX7_book 15 = .ok (.aload_n 0, 1) := by decide +kernel
theorem dX7_book_16 : decode cX7_book 16 = .ok (.getfield 12, 3) := by decide +kernel
theorem dX7_book_19 : decode cX7_book 19 = .ok (.iload_n 1, 1) := by decide +kernel
theorem dX7_book_20 : decode cX7_book 20 = .ok (.invokevirtual 81, 3) := by decide +kernel
theorem dX7_book_23 : decode cX7_book 23 = .ok (.ifCond .eq 21, 3) := by decide +kernel
theorem dX7_book_26 : decode cX7_book 26 = .ok (.aload_n 0, 1) := by decide +kernel
theorem dX7_book_27 : decode cX7_book 27 = .ok (.getfield 12, 3) := by decide +kernel
theorem dX7_book_30 : decode cX7_book 30 = .ok (.iload_n 2, 1) := by decide +kernel
theorem dX7_book_31 : decode cX7_book 31 = .ok (.invokevirtual 81, 3) := by decide +kernel
theorem dX7_book_34 : decode cX7_book 34 = .ok (.ifCond .eq 10, 3) := by decide +kernel
theorem dX7_book_37 : decode cX7_book 37 = .ok (.iload_n 3, 1) := by decide +kernel
theorem dX7_book_38 : decode cX7_book 38 = .ok (.invokestatic 85, 3) := by decide +kernel
theorem dX7_book_41 : decode cX7_book 41 = .ok (.ifCond .ne 5, 3) := by decide +kernel
theorem dX7_book_44 : decode cX7_book 44 = .ok (.iconst (-1), 1) := by decide +kernel
theorem dX7_book_45 : decode cX7_book 45 = .ok (.ireturn, 1) := by decide +kernel
theorem dX7_book_46 : decode cX7_book 46 = .ok (.iload_n 1, 1) := by decide +kernel
theorem dX7_book_47 : decode cX7_book 47 = .ok (.iload_n 2, 1) := by decide +kernel
theorem dX7_book_48 : decode cX7_book 48 = .ok (.if_icmp .ne 6, 3) := by decide +kernel
theorem dX7_book_51 : decode cX7_book 51 = .ok (.bipush (-2), 2) := by decide +kernel
theorem dX7_book_53 : decode cX7_book 53 = .ok (.ireturn, 1) := by decide +kernel
theorem dX7_book_54 : decode cX7_book 54 = .ok (.aload_n 0, 1) := by decide +kernel
theorem dX7_book_55 : decode cX7_book 55 = .ok (.getfield 12, 3) := by decide +kernel
theorem dX7_book_58 : decode cX7_book 58 = .ok (.getfield 213, 3) := by decide +kernel
theorem dX7_book_61 : decode cX7_book 61 = .ok (.bipush 12, 2) := by decide +kernel
theorem dX7_book_63 : decode cX7_book 63 = .ok (.if_icmp .lt 8, 3) := by decide +kernel
theorem dX7_book_66 : decode cX7_book 66 = .ok (.bipush (-4), 2) := by decide +kernel
theorem dX7_book_68 : decode cX7_book 68 = .ok (.goto 13, 3) := by decide +kernel
theorem dX7_book_71 : decode cX7_book 71 = .ok (.aload_n 0, 1) := by decide +kernel
theorem dX7_book_72 : decode cX7_book 72 = .ok (.getfield 12, 3) := by decide +kernel
theorem dX7_book_75 : decode cX7_book 75 = .ok (.iload_n 1, 1) := by decide +kernel
theorem dX7_book_76 : decode cX7_book 76 = .ok (.iload_n 2, 1) := by decide +kernel
theorem dX7_book_77 : decode cX7_book 77 = .ok (.iload_n 3, 1) := by decide +kernel
theorem dX7_book_78 : decode cX7_book 78 = .ok (.invokevirtual 216, 3) := by decide +kernel
theorem dX7_book_81 : decode cX7_book 81 = .ok (.ireturn, 1) := by decide +kernel
theorem oG_book : zok yX7_book 3 := by decide +kernel
theorem dX2_write_0 : decode cX2_write 0 = .ok (.aload_n 0, 1) := by decide +kernel
theorem dX2_write_1 : decode cX2_write 1 = .ok (.getfield 25, 3) := by decide +kernel
theorem dX2_write_4 : decode cX2_write 4 = .ok (.aload_n 0, 1) := by decide +kernel
theorem dX2_write_5 : decode cX2_write 5 = .ok (.getfield 38, 3) := by decide +kernel
theorem dX2_write_8 : decode cX2_write 8 = .ok (.iconst 3, 1) := by decide +kernel
theorem dX2_write_9 : decode cX2_write 9 = .ok (.imul, 1) := by decide +kernel
theorem dX2_write_10 : decode cX2_write 10 = .ok (.iload_n 1, 1) := by decide +kernel
theorem dX2_write_11 : decode cX2_write 11 = .ok (.iastore, 1) := by decide +kernel
theorem dX2_write_12 : decode cX2_write 12 = .ok (.aload_n 0, 1) := by decide +kernel
theorem dX2_write_13 : decode cX2_write 13 = .ok (.getfield 25, 3) := by decide +kernel
theorem dX2_write_16 : decode cX2_write 16 = .ok (.aload_n 0, 1) := by decide +kernel
theorem dX2_write_17 : decode cX2_write 17 = .ok (.getfield 38, 3) := by decide +kernel
theorem dX2_write_20 : decode cX2_write 20 = .ok (.iconst 3, 1) := by decide +kernel
theorem dX2_write_21 : decode cX2_write 21 = .ok (.imul, 1) := by decide +kernel
theorem dX2_write_22 : decode cX2_write 22 = .ok (.iconst 1, 1) := by decide +kernel
theorem dX2_write_23 : decode cX2_write 23 = .ok (.iadd, 1) := by decide +kernel
theorem dX2_write_24 : decode cX2_write 24 = .ok (.iload_n 2, 1) := by decide +kernel
theorem dX2_write_25 : decode cX2_write 25 = .ok (.iastore, 1) := by decide +kernel
theorem dX2_write_26 : decode cX2_write 26 = .ok (.aload_n 0, 1) := by decide +kernel
theorem dX2_write_27 : decode cX2_write 27 = .ok (.getfield 25, 3) := by decide +kernel
theorem dX2_write_30 : decode cX2_write 30 = .ok (.aload_n 0, 1) := by decide +kernel
theorem dX2_write_31 : decode cX2_write 31 = .ok (.getfield 38, 3) := by decide +kernel
theorem dX2_write_34 : decode cX2_write 34 = .ok (.iconst 3, 1) := by decide +kernel
theorem dX2_write_35 : decode cX2_write 35 = .ok (.imul, 1) := by decide +kernel
theorem dX2_write_36 : decode cX2_write 36 = .ok (.iconst 2, 1) := by decide +kernel
theorem dX2_write_37 : decode cX2_write 37 = .ok (.iadd, 1) := by decide +kernel
theorem dX2_write_38 : decode cX2_write 38 = .ok (.iload_n 3, 1) := by decide +kernel
theorem dX2_write_39 : decode cX2_write 39 = .ok (.iastore, 1) := by decide +kernel
theorem dX2_write_40 : decode cX2_write 40 = .ok (.aload_n 0, 1) := by decide +kernel
theorem dX2_write_41 : decode cX2_write 41 = .ok (.dup, 1) := by decide +kernel
theorem dX2_write_42 : decode cX2_write 42 = .ok (.getfield 38, 3) := by decide +kernel
theorem dX2_write_45 : decode cX2_write 45 = .ok (.iconst 1, 1) := by decide +kernel
theorem dX2_write_46 : decode cX2_write 46 = .ok (.iadd, 1) := by decide +kernel
theorem dX2_write_47 : decode cX2_write 47 = .ok (.putfield 38, 3) := by decide +kernel
theorem dX2_write_50 : decode cX2_write 50 = .ok (.aload_n 0, 1) := by decide +kernel
theorem dX2_write_51 : decode cX2_write 51 = .ok (.getfield 38, 3) := by decide +kernel
theorem dX2_write_54 : decode cX2_write 54 = .ok (.ireturn, 1) := by decide +kernel
theorem oP_write : zok yX2_write 3 := by decide +kernel
theorem dX7_looked_0 : decode cX7_looked 0 = .ok (.iconst 0, 1) := by decide +kernel
theorem dX7_looked_1 : decode cX7_looked 1 = .ok (.istore_n 1, 1) := by decide +kernel
theorem dX7_looked_2 : decode cX7_looked 2 = .ok (.iload_n 1, 1) := by decide +kernel
theorem dX7_looked_3 : decode cX7_looked 3 = .ok (.aload_n 0, 1) := by decide +kernel
theorem dX7_looked_4 : decode cX7_looked 4 = .ok (.getfield 12, 3) := by decide +kernel
theorem dX7_looked_7 : decode cX7_looked 7 = .ok (.getfield 213, 3) := by decide +kernel
theorem dX7_looked_10 : decode cX7_looked 10 = .ok (.if_icmp .ge 68, 3) := by decide +kernel
theorem dX7_looked_13 : decode cX7_looked 13 = .ok (.aload_n 0, 1) := by decide +kernel
theorem dX7_looked_14 : decode cX7_looked 14 = .ok (.aload_n 0, 1) := by decide +kernel
theorem dX7_looked_15 : decode cX7_looked 15 = .ok (.getfield 12, 3) := by decide +kernel
theorem dX7_looked_18 : decode cX7_looked 18 = .ok (.aload_n 0, 1) := by decide +kernel
theorem dX7_looked_19 : decode cX7_looked 19 = .ok (.getfield 12, 3) := by decide +kernel
theorem dX7_looked_22 : decode cX7_looked 22 = .ok (.getfield 220, 3) := by decide +kernel
theorem dX7_looked_25 : decode cX7_looked 25 = .ok (.iload_n 1, 1) := by decide +kernel
theorem dX7_looked_26 : decode cX7_looked 26 = .ok (.iconst 3, 1) := by decide +kernel
theorem dX7_looked_27 : decode cX7_looked 27 = .ok (.imul, 1) := by decide +kernel
theorem dX7_looked_28 : decode cX7_looked 28 = .ok (.iaload, 1) := by decide +kernel
theorem dX7_looked_29 : decode cX7_looked 29 = .ok (.invokevirtual 151, 3) := by decide +kernel
theorem dX7_looked_32 : decode cX7_looked 32 = .ok (.pop, 1) := by decide +kernel
theorem dX7_looked_33 : decode cX7_looked 33 = .ok (.aload_n 0, 1) := by decide +kernel
theorem dX7_looked_34 : decode cX7_looked 34 = .ok (.getfield 45, 3) := by decide +kernel
theorem dX7_looked_37 : decode cX7_looked 37 = .ok (.getfield 154, 3) := by decide +kernel
theorem dX7_looked_40 : decode cX7_looked 40 = .ok (.aload_n 0, 1) := by decide +kernel
theorem dX7_looked_41 : decode cX7_looked 41 = .ok (.getfield 12, 3) := by decide +kernel
theorem dX7_looked_44 : decode cX7_looked 44 = .ok (.getfield 220, 3) := by decide +kernel
theorem dX7_looked_47 : decode cX7_looked 47 = .ok (.iload_n 1, 1) := by decide +kernel
theorem dX7_looked_48 : decode cX7_looked 48 = .ok (.iconst 3, 1) := by decide +kernel
theorem dX7_looked_49 : decode cX7_looked 49 = .ok (.imul, 1) := by decide +kernel
theorem dX7_looked_50 : decode cX7_looked 50 = .ok (.iconst 1, 1) := by decide +kernel
theorem dX7_looked_51 : decode cX7_looked 51 = .ok (.iadd, 1) := by decide +kernel
theorem dX7_looked_52 : decode cX7_looked 52 = .ok (.iaload, 1) := by decide +kernel
theorem dX7_looked_53 : decode cX7_looked 53 = .ok (.iaload, 1) := by decide +kernel
theorem dX7_looked_54 : decode cX7_looked 54 = .ok (.aload_n 0, 1) := by decide +kernel
theorem dX7_looked_55 : decode cX7_looked 55 = .ok (.getfield 12, 3) := by decide +kernel
theorem dX7_looked_58 : decode cX7_looked 58 = .ok (.getfield 220, 3) := by decide +kernel
theorem dX7_looked_61 : decode cX7_looked 61 = .ok (.iload_n 1, 1) := by decide +kernel
theorem dX7_looked_62 : decode cX7_looked 62 = .ok (.iconst 3, 1) := by decide +kernel
theorem dX7_looked_63 : decode cX7_looked 63 = .ok (.imul, 1) := by decide +kernel
theorem dX7_looked_64 : decode cX7_looked 64 = .ok (.iconst 2, 1) := by decide +kernel
theorem dX7_looked_65 : decode cX7_looked 65 = .ok (.iadd, 1) := by decide +kernel
theorem dX7_looked_66 : decode cX7_looked 66 = .ok (.iaload, 1) := by decide +kernel
theorem dX7_looked_67 : decode cX7_looked 67 = .ok (.if_icmp .eq 5, 3) := by decide +kernel
theorem dX7_looked_70 : decode cX7_looked 70 = .ok (.iload_n 1, 1) := by decide +kernel
theorem dX7_looked_71 : decode cX7_looked 71 = .ok (.ireturn, 1) := by decide +kernel
theorem dX7_looked_72 : decode cX7_looked 72 = .ok (.iinc 1 1, 3) := by decide +kernel
theorem dX7_looked_75 : decode cX7_looked 75 = .ok (.goto (-73), 3) := by decide +kernel
theorem dX7_looked_78 : decode cX7_looked 78 = .ok (.bipush (-5), 2) := by decide +kernel
theorem dX7_looked_80 : decode cX7_looked 80 = .ok (.ireturn, 1) := by decide +kernel
theorem oG_looked : zok yX7_looked 0 := by decide +kernel
theorem dX7_judge_0 : decode cX7_judge 0 = .ok (.aload_n 0, 1) := by decide +kernel
theorem dX7_judge_1 : decode cX7_judge 1 = .ok (.getfield 69, 3) := by decide +kernel
theorem dX7_judge_4 : decode cX7_judge 4 = .ok (.iload_n 1, 1) := by decide +kernel
theorem dX7_judge_5 : decode cX7_judge 5 = .ok (.invokevirtual 223, 3) := by decide +kernel
theorem dX7_judge_8 : decode cX7_judge 8 = .ok (.ifCond .ne 5, 3) := by decide +kernel
theorem dX7_judge_11 : decode cX7_judge 11 = .ok (.iconst (-1), 1) := by decide +kernel
theorem dX7_judge_12 : decode cX7_judge 12 = .ok (.ireturn, 1) := by decide +kernel
theorem dX7_judge_13 : decode cX7_judge 13 = .ok (.aload_n 0, 1) := by decide +kernel
theorem dX7_judge_14 : decode cX7_judge 14 = .ok (.getfield 69, 3) := by decide +kernel
theorem dX7_judge_17 : decode cX7_judge 17 = .ok (.iload_n 1, 1) := by decide +kernel
theorem dX7_judge_18 : decode cX7_judge 18 = .ok (.invokevirtual 224, 3) := by decide +kernel
theorem dX7_judge_21 : decode cX7_judge 21 = .ok (.ifCond .eq 19, 3) := by decide +kernel
theorem dX7_judge_24 : decode cX7_judge 24 = .ok (.aload_n 0, 1) := by decide +kernel
theorem dX7_judge_25 : decode cX7_judge 25 = .ok (.getfield 69, 3) := by decide +kernel
theorem dX7_judge_28 : decode cX7_judge 28 = .ok (.getfield 227, 3) := by decide +kernel
theorem dX7_judge_31 : decode cX7_judge 31 = .ok (.iload_n 1, 1) := by decide +kernel
theorem dX7_judge_32 : decode cX7_judge 32 = .ok (.iaload, 1) := by decide +kernel
theorem dX7_judge_33 : decode cX7_judge 33 = .ok (.iconst 1, 1) := by decide +kernel
theorem dX7_judge_34 : decode cX7_judge 34 = .ok (.if_icmp .eq 6, 3) := by decide +kernel
theorem dX7_judge_37 : decode cX7_judge 37 = .ok (.bipush (-12), 2) := by decide +kernel
theorem dX7_judge_39 : decode cX7_judge 39 = .ok (.ireturn, 1) := by decide +kernel
theorem dX7_judge_40 : decode cX7_judge 40 = .ok (.iload_n 2, 1) := by decide +kernel
theorem dX7_judge_41 : decode cX7_judge 41 = .ok (.ifCond .lt 16, 3) := by decide +kernel
theorem dX7_judge_44 : decode cX7_judge 44 = .ok (.iload_n 2, 1) := by decide +kernel
theorem dX7_judge_45 : decode cX7_judge 45 = .ok (.aload_n 0, 1) := by decide +kernel
theorem dX7_judge_46 : decode cX7_judge 46 = .ok (.getfield 69, 3) := by decide +kernel
theorem dX7_judge_49 : decode cX7_judge 49 = .ok (.getfield 230, 3) := by decide +kernel
theorem dX7_judge_52 : decode cX7_judge 52 = .ok (.iload_n 1, 1) := by decide +kernel
theorem dX7_judge_53 : decode cX7_judge 53 = .ok (.iaload, 1) := by decide +kernel
theorem dX7_judge_54 : decode cX7_judge 54 = .ok (.if_icmp .le 7, 3) := by decide +kernel
theorem dX7_judge_57 : decode cX7_judge 57 = .ok (.iconst 0, 1) := by decide +kernel
theorem dX7_judge_58 : decode cX7_judge 58 = .ok (.goto 14, 3) := by decide +kernel
theorem dX7_judge_61 : decode cX7_judge 61 = .ok (.aload_n 0, 1) := by decide +kernel
theorem dX7_judge_62 : decode cX7_judge 62 = .ok (.getfield 69, 3) := by decide +kernel
theorem dX7_judge_65 : decode cX7_judge 65 = .ok (.getfield 230, 3) := by decide +kernel
theorem dX7_judge_68 : decode cX7_judge 68 = .ok (.iload_n 1, 1) := by decide +kernel
theorem dX7_judge_69 : decode cX7_judge 69 = .ok (.iaload, 1) := by decide +kernel
theorem dX7_judge_70 : decode cX7_judge 70 = .ok (.iload_n 2, 1) := by decide +kernel
theorem dX7_judge_71 : decode cX7_judge 71 = .ok (.isub, 1) := by decide +kernel
theorem dX7_judge_72 : decode cX7_judge 72 = .ok (.istore_n 3, 1) := by decide +kernel
theorem dX7_judge_73 : decode cX7_judge 73 = .ok (.iconst 0, 1) := by decide +kernel
theorem dX7_judge_74 : decode cX7_judge 74 = .ok (.istore 4, 2) := by decide +kernel
theorem dX7_judge_76 : decode cX7_judge 76 = .ok (.iload 4, 2) := by decide +kernel
theorem dX7_judge_78 : decode cX7_judge 78 = .ok (.aload_n 0, 1) := by decide +kernel
theorem dX7_judge_79 : decode cX7_judge 79 = .ok (.getfield 12, 3) := by decide +kernel
theorem dX7_judge_82 : decode cX7_judge 82 = .ok (.getfield 73, 3) := by decide +kernel
theorem dX7_judge_85 : decode cX7_judge 85 = .ok (.if_icmp .ge 54, 3) := by decide +kernel
theorem dX7_judge_88 : decode cX7_judge 88 = .ok (.iload 4, 2) := by decide +kernel
theorem dX7_judge_90 : decode cX7_judge 90 = .ok (.iload_n 3, 1) := by decide +kernel
theorem dX7_judge_91 : decode cX7_judge 91 = .ok (.if_icmp .lt 9, 3) := by decide +kernel
theorem dX7_judge_94 : decode cX7_judge 94 = .ok (.bipush 100, 2) := by decide +kernel
theorem dX7_judge_96 : decode cX7_judge 96 = .ok (.iload 4, 2) := by decide +kernel
theorem dX7_judge_98 : decode cX7_judge 98 = .ok (.iadd, 1) := by decide +kernel
theorem dX7_judge_99 : decode cX7_judge 99 = .ok (.ireturn, 1) := by decide +kernel
theorem dX7_judge_100 : decode cX7_judge 100 = .ok (.aload_n 0, 1) := by decide +kernel
theorem dX7_judge_101 : decode cX7_judge 101 = .ok (.getfield 69, 3) := by decide +kernel
theorem dX7_judge_104 : decode cX7_judge 104 = .ok (.iload_n 1, 1) := by decide +kernel
theorem dX7_judge_105 : decode cX7_judge 105 = .ok (.iload_n 2, 1) := by decide +kernel
theorem dX7_judge_106 : decode cX7_judge 106 = .ok (.iload 4, 2) := by decide +kernel
theorem dX7_judge_108 : decode cX7_judge 108 = .ok (.iadd, 1) := by decide +kernel
theorem dX7_judge_109 : decode cX7_judge 109 = .ok (.invokevirtual 232, 3) := by decide +kernel
theorem dX7_judge_112 : decode cX7_judge 112 = .ok (.aload_n 0, 1) := by decide +kernel
theorem dX7_judge_113 : decode cX7_judge 113 = .ok (.getfield 12, 3) := by decide +kernel
theorem dX7_judge_116 : decode cX7_judge 116 = .ok (.getfield 88, 3) := by decide +kernel
theorem dX7_judge_119 : decode cX7_judge 119 = .ok (.iload 4, 2) := by decide +kernel
theorem dX7_judge_121 : decode cX7_judge 121 = .ok (.aaload, 1) := by decide +kernel
theorem dX7_judge_122 : decode cX7_judge 122 = .ok (.getfield 200, 3) := by decide +kernel
theorem dX7_judge_125 : decode cX7_judge 125 = .ok (.i2l, 1) := by decide +kernel
theorem dX7_judge_126 : decode cX7_judge 126 = .ok (.lcmp, 1) := by decide +kernel
theorem dX7_judge_127 : decode cX7_judge 127 = .ok (.ifCond .eq 6, 3) := by decide +kernel
theorem dX7_judge_130 : decode cX7_judge 130 = .ok (.iload 4, 2) := by decide +kernel
theorem dX7_judge_132 : decode cX7_judge 132 = .ok (.ireturn, 1) := by decide +kernel
theorem dX7_judge_133 : decode cX7_judge 133 = .ok (.iinc 4 1, 3) := by decide +kernel
theorem dX7_judge_136 : decode cX7_judge 136 = .ok (.goto (-60), 3) := by decide +kernel
theorem dX7_judge_139 : decode cX7_judge 139 = .ok (.bipush (-5), 2) := by decide +kernel
theorem dX7_judge_141 : decode cX7_judge 141 = .ok (.ireturn, 1) := by decide +kernel
theorem oG_judge : zok yX7_judge 2 := by decide +kernel
theorem dX5_has_0 : decode cX5_has 0 = .ok (.iload_n 1, 1) := by decide +kernel
theorem dX5_has_1 : decode cX5_has 1 = .ok (.ifCond .lt 13, 3) := by decide +kernel
theorem dX5_has_4 : decode cX5_has 4 = .ok (.iload_n 1, 1) := by decide +kernel
theorem dX5_has_5 : decode cX5_has 5 = .ok (.bipush 6, 2) := by decide +kernel
theorem dX5_has_7 : decode cX5_has 7 = .ok (.if_icmp .ge 7, 3) := by decide +kernel
theorem dX5_has_10 : decode cX5_has 10 = .ok (.iconst 1, 1) := by decide +kernel
theorem dX5_has_11 : decode cX5_has 11 = .ok (.goto 4, 3) := by decide +kernel
theorem dX5_has_14 : decode cX5_has 14 = .ok (.iconst 0, 1) := by decide +kernel
theorem dX5_has_15 : decode cX5_has 15 = .ok (.ireturn, 1) := by decide +kernel
theorem oK_has : zok yX5_has 1 := by decide +kernel
theorem dX5_holds_0 : decode cX5_holds 0 = .ok (.aload_n 0, 1) := by decide +kernel
theorem dX5_holds_1 : decode cX5_holds 1 = .ok (.getfield 9, 3) := by decide +kernel
theorem dX5_holds_4 : decode cX5_holds 4 = .ok (.iload_n 1, 1) := by decide +kernel
theorem dX5_holds_5 : decode cX5_holds 5 = .ok (.iaload, 1) := by decide +kernel
theorem dX5_holds_6 : decode cX5_holds 6 = .ok (.iconst (-1), 1) := by decide +kernel
theorem dX5_holds_7 : decode cX5_holds 7 = .ok (.if_icmp .eq 7, 3) := by decide +kernel
theorem dX5_holds_10 : decode cX5_holds 10 = .ok (.iconst 1, 1) := by decide +kernel
theorem dX5_holds_11 : decode cX5_holds 11 = .ok (.goto 4, 3) := by decide +kernel
theorem dX5_holds_14 : decode cX5_holds 14 = .ok (.iconst 0, 1) := by decide +kernel
theorem dX5_holds_15 : decode cX5_holds 15 = .ok (.ireturn, 1) := by decide +kernel
theorem oK_holds : zok yX5_holds 1 := by decide +kernel
theorem dX5_at_0 : decode cX5_at 0 = .ok (.aload_n 0, 1) := by decide +kernel
theorem dX5_at_1 : decode cX5_at 1 = .ok (.getfield 16, 3) := by decide +kernel
theorem dX5_at_4 : decode cX5_at 4 = .ok (.iload_n 1, 1) := by decide +kernel
theorem dX5_at_5 : decode cX5_at 5 = .ok (.bipush 60, 2) := by decide +kernel
theorem dX5_at_7 : decode cX5_at 7 = .ok (.imul, 1) := by decide +kernel
theorem dX5_at_8 : decode cX5_at 8 = .ok (.iload_n 2, 1) := by decide +kernel
theorem dX5_at_9 : decode cX5_at 9 = .ok (.iadd, 1) := by decide +kernel
theorem dX5_at_10 : decode cX5_at 10 = .ok (.laload, 1) := by decide +kernel
theorem dX5_at_11 : decode cX5_at 11 = .ok (.lreturn, 1) := by decide +kernel
theorem oK_at : zok yX5_at 2 := by decide +kernel
theorem dX7_image_0 : decode cX7_image 0 = .ok (.aload_n 0, 1) := by decide +kernel
theorem dX7_image_1 : decode cX7_image 1 = .ok (.getfield 18, 3) := by decide +kernel
theorem dX7_image_4 : decode cX7_image 4 = .ok (.aload_n 0, 1) := by decide +kernel
theorem dX7_image_5 : decode cX7_image 5 = .ok (.getfield 12, 3) := by decide +kernel
theorem dX7_image_8 : decode cX7_image 8 = .ok (.invokevirtual 160, 3) := by decide +kernel
theorem dX7_image_11 : decode cX7_image 11 = .ok (.aload_n 0, 1) := by decide +kernel
theorem dX7_image_12 : decode cX7_image 12 = .ok (.iconst 1, 1) := by decide +kernel
theorem dX7_image_13 : decode cX7_image 13 = .ok (.putfield 236, 3) := by decide +kernel
theorem dX7_image_16 : decode cX7_image 16 = .ok (.aload_n 0, 1) := by decide +kernel
theorem dX7_image_17 : decode cX7_image 17 = .ok (.getfield 12, 3) := by decide +kernel
theorem dX7_image_20 : decode cX7_image 20 = .ok (.getfield 73, 3) := by decide +kernel
theorem dX7_image_23 : decode cX7_image 23 = .ok (.ireturn, 1) := by decide +kernel
theorem oG_image : zok yX7_image 0 := by decide +kernel
theorem dX7_undo_0 : decode cX7_undo 0 = .ok (.aload_n 0, 1) := by decide +kernel
theorem dX7_undo_1 : decode cX7_undo 1 = .ok (.getfield 236, 3) := by decide +kernel
theorem dX7_undo_4 : decode cX7_undo 4 = .ok (.ifCond .ne 6, 3) := by decide +kernel
theorem dX7_undo_7 : decode cX7_undo 7 = .ok (.bipush (-3), 2) := by decide +kernel
theorem dX7_undo_9 : decode cX7_undo 9 = .ok (.ireturn, 1) := by decide +kernel
theorem dX7_undo_10 : decode cX7_undo 10 = .ok (.aload_n 0, 1) := by decide +kernel
theorem dX7_undo_11 : decode cX7_undo 11 = .ok (.getfield 12, 3) := by decide +kernel
theorem dX7_undo_14 : decode cX7_undo 14 = .ok (.aload_n 0, 1) := by decide +kernel
theorem dX7_undo_15 : decode cX7_undo 15 = .ok (.getfield 18, 3) := by decide +kernel
theorem dX7_undo_18 : decode cX7_undo 18 = .ok (.invokevirtual 160, 3) := by decide +kernel
theorem dX7_undo_21 : decode cX7_undo 21 = .ok (.aload_n 0, 1) := by decide +kernel
theorem dX7_undo_22 : decode cX7_undo 22 = .ok (.getfield 12, 3) := by decide +kernel
theorem dX7_undo_25 : decode cX7_undo 25 = .ok (.getfield 73, 3) := by decide +kernel
theorem dX7_undo_28 : decode cX7_undo 28 = .ok (.ireturn, 1) := by decide +kernel
theorem oG_undo : zok yX7_undo 0 := by decide +kernel
theorem dX7_act_0 : decode cX7_act 0 = .ok (.aload_n 0, 1) := by decide +kernel
theorem dX7_act_1 : decode cX7_act 1 = .ok (.getfield 62, 3) := by decide +kernel
theorem dX7_act_4 : decode cX7_act 4 = .ok (.iconst 0, 1) := by decide +kernel
theorem dX7_act_5 : decode cX7_act 5 = .ok (.putfield 240, 3) := by decide +kernel
theorem dX7_act_8 : decode cX7_act 8 = .ok (.aload_n 0, 1) := by decide +kernel
theorem dX7_act_9 : decode cX7_act 9 = .ok (.getfield 12, 3) := by decide +kernel
theorem dX7_act_12 : decode cX7_act 12 = .ok (.iload_n 1, 1) := by decide +kernel
theorem dX7_act_13 : decode cX7_act 13 = .ok (.invokevirtual 81, 3) := by decide +kernel
theorem dX7_act_16 : decode cX7_act 16 = .ok (.ifCond .eq 12, 3) := by decide +kernel
theorem dX7_act_19 : decode cX7_act 19 = .ok (.iload_n 2, 1) := by decide +kernel
theorem dX7_act_20 : decode cX7_act 20 = .ok (.ifCond .lt 8, 3) := by decide +kernel
theorem dX7_act_23 : decode cX7_act 23 = .ok (.iload_n 2, 1) := by decide +kernel
theorem dX7_act_24 : decode cX7_act 24 = .ok (.iconst 3, 1) := by decide +kernel
theorem dX7_act_25 : decode cX7_act 25 = .ok (.if_icmp .lt 5, 3) := by decide +kernel
theorem dX7_act_28 : decode cX7_act 28 = .ok (.iconst 0, 1) := by decide +kernel
theorem dX7_act_29 : decode cX7_act 29 = .ok (.ireturn, 1) := by decide +kernel
theorem dX7_act_30 : decode cX7_act 30 = .ok (.aload_n 0, 1) := by decide +kernel
theorem dX7_act_31 : decode cX7_act 31 = .ok (.getfield 62, 3) := by decide +kernel
theorem dX7_act_34 : decode cX7_act 34 = .ok (.aload_n 0, 1) := by decide +kernel
theorem dX7_act_35 : decode cX7_act 35 = .ok (.getfield 12, 3) := by decide +kernel
theorem dX7_act_38 : decode cX7_act 38 = .ok (.getfield 88, 3) := by decide +kernel
theorem dX7_act_41 : decode cX7_act 41 = .ok (.iload_n 1, 1) := by decide +kernel
theorem dX7_act_42 : decode cX7_act 42 = .ok (.aaload, 1) := by decide +kernel
theorem dX7_act_43 : decode cX7_act 43 = .ok (.iload_n 2, 1) := by decide +kernel
theorem dX7_act_44 : decode cX7_act 44 = .ok (.iload_n 3, 1) := by decide +kernel
theorem dX7_act_45 : decode cX7_act 45 = .ok (.invokevirtual 243, 3) := by decide +kernel
theorem dX7_act_48 : decode cX7_act 48 = .ok (.ireturn, 1) := by decide +kernel
theorem oG_act : zok yX7_act 3 := by decide +kernel
theorem dX0_run_0 : decode cX0_run 0 = .ok (.aload_n 0, 1) := by decide +kernel
theorem dX0_run_1 : decode cX0_run 1 = .ok (.aload_n 1, 1) := by decide +kernel
theorem dX0_run_2 : decode cX0_run 2 = .ok (.aload_n 1, 1) := by decide +kernel
theorem dX0_run_3 : decode cX0_run 3 = .ok (.getfield 15, 3) := by decide +kernel
theorem dX0_run_6 : decode cX0_run 6 = .ok (.iload_n 2, 1) := by decide +kernel
theorem dX0_run_7 : decode cX0_run 7 = .ok (.iload_n 3, 1) := by decide +kernel
theorem dX0_run_8 : decode cX0_run 8 = .ok (.iconst 0, 1) := by decide +kernel
theorem dX0_run_9 : decode cX0_run 9 = .ok (.invokevirtual 21, 3) := by decide +kernel
theorem dX0_run_12 : decode cX0_run 12 = .ok (.ireturn, 1) := by decide +kernel
theorem oA_run : zok yX0_run 3 := by decide +kernel
theorem dX0_perform_0 : decode cX0_perform 0 = .ok (.iload_n 2, 1) := by decide +kernel
theorem dX0_perform_1 : decode cX0_perform 1 = .ok (.istore 6, 2) := by decide +kernel
theorem dX0_perform_3 : decode cX0_perform 3 = .ok (.iconst 0, 1) := by decide +kernel
theorem dX0_perform_4 : decode cX0_perform 4 = .ok (.istore 7, 2) := by decide +kernel
theorem dX0_perform_6 : decode cX0_perform 6 = .ok (.iload 7, 2) := by decide +kernel
theorem dX0_perform_8 : decode cX0_perform 8 = .ok (.bipush 7, 2) := by decide +kernel
theorem dX0_perform_10 : decode cX0_perform 10 = .ok (.if_icmp .ge 35, 3) := by decide +kernel
theorem dX0_perform_13 : decode cX0_perform 13 = .ok (.iload 6, 2) := by decide +kernel
theorem dX0_perform_15 : decode cX0_perform 15 = .ok (.ifCond .le 30, 3) := by decide +kernel
theorem dX0_perform_18 : decode cX0_perform 18 = .ok (.getstatic 25, 3) := by decide +kernel
theorem dX0_perform_21 : decode cX0_perform 21 = .ok (.iload 6, 2) := by decide +kernel
theorem dX0_perform_23 : decode cX0_perform 23 = .ok (.iconst 3, 1) := by decide +kernel
theorem dX0_perform_24 : decode cX0_perform 24 = .ok (.imul, 1) := by decide +kernel
theorem dX0_perform_25 : decode cX0_perform 25 = .ok (.iload_n 3, 1) := by decide +kernel
theorem dX0_perform_26 : decode cX0_perform 26 = .ok (.iadd, 1) := by decide +kernel
theorem dX0_perform_27 : decode cX0_perform 27 = .ok (.iaload, 1) := by decide +kernel
theorem dX0_perform_28 : decode cX0_perform 28 = .ok (.ifCond .ne 17, 3) := by decide +kernel
theorem dX0_perform_31 : decode cX0_perform 31 = .ok (.getstatic 28, 3) := by decide +kernel
theorem dX0_perform_34 : decode cX0_perform 34 = .ok (.iload 6, 2) := by decide +kernel
theorem dX0_perform_36 : decode cX0_perform 36 = .ok (.iaload, 1) := by decide +kernel
theorem dX0_perform_37 : decode cX0_perform 37 = .ok (.istore 6, 2) := by decide +kernel
theorem dX0_perform_39 : decode cX0_perform 39 = .ok (.iinc 7 1, 3) := by decide +kernel
theorem dX0_perform_42 : decode cX0_perform 42 = .ok (.goto (-36), 3) := by decide +kernel
theorem dX0_perform_45 : decode cX0_perform 45 = .ok (.iload 6, 2) := by decide +kernel
theorem dX0_perform_47 : decode cX0_perform 47 = .ok (.ifCond .lt 10, 3) := by decide +kernel
theorem dX0_perform_50 : decode cX0_perform 50 = .ok (.iload 5, 2) := by decide +kernel
theorem dX0_perform_52 : decode cX0_perform 52 = .ok (.bipush 40, 2) := by decide +kernel
theorem dX0_perform_54 : decode cX0_perform 54 = .ok (.if_icmp .le 5, 3) := by decide +kernel
theorem dX0_perform_57 : decode cX0_perform 57 = .ok (.iconst 0, 1) := by decide +kernel
theorem dX0_perform_58 : decode cX0_perform 58 = .ok (.ireturn, 1) := by decide +kernel
theorem dX0_perform_59 : decode cX0_perform 59 = .ok (.getstatic 25, 3) := by decide +kernel
theorem dX0_perform_62 : decode cX0_perform 62 = .ok (.iload 6, 2) := by decide +kernel
theorem dX0_perform_64 : decode cX0_perform 64 = .ok (.iconst 3, 1) := by decide +kernel
theorem dX0_perform_65 : decode cX0_perform 65 = .ok (.imul, 1) := by decide +kernel
theorem dX0_perform_66 : decode cX0_perform 66 = .ok (.iload_n 3, 1) := by decide +kernel
theorem dX0_perform_67 : decode cX0_perform 67 = .ok (.iadd, 1) := by decide +kernel
theorem dX0_perform_68 : decode cX0_perform 68 = .ok (.iaload, 1) := by decide +kernel
theorem dX0_perform_69 : decode cX0_perform 69 = .ok (.istore 7, 2) := by decide +kernel
theorem dX0_perform_71 : decode cX0_perform 71 = .ok (.aload_n 0, 1) := by decide +kernel
theorem dX0_perform_72 : decode cX0_perform 72 = .ok (.getfield 31, 3) := by decide +kernel
theorem dX0_perform_75 : decode cX0_perform 75 = .ok (.bipush 20, 2) := by decide +kernel
theorem dX0_perform_77 : decode cX0_perform 77 = .ok (.if_icmp .ge 14, 3) := by decide +kernel
theorem dX0_perform_80 : decode cX0_perform 80 = .ok (.aload_n 0, 1) := by decide +kernel
theorem dX0_perform_81 : decode cX0_perform 81 = .ok (.getfield 11, 3) := by decide +kernel
theorem dX0_perform_84 : decode cX0_perform 84 = .ok (.aload_n 0, 1) := by decide +kernel
theorem dX0_perform_85 : decode cX0_perform 85 = .ok (.getfield 31, 3) := by decide +kernel
theorem dX0_perform_88 : decode cX0_perform 88 = .ok (.iload 7, 2) := by decide +kernel
theorem dX0_perform_90 : decode cX0_perform 90 = .ok (.iastore, 1) := by decide +kernel
theorem dX0_perform_91 : decode cX0_perform 91 = .ok (.aload_n 0, 1) := by decide +kernel
theorem dX0_perform_92 : decode cX0_perform 92 = .ok (.dup, 1) := by decide +kernel
theorem dX0_perform_93 : decode cX0_perform 93 = .ok (.getfield 31, 3) := by decide +kernel
theorem dX0_perform_96 : decode cX0_perform 96 = .ok (.iconst 1, 1) := by decide +kernel
theorem dX0_perform_97 : decode cX0_perform 97 = .ok (.iadd, 1) := by decide +kernel
theorem dX0_perform_98 : decode cX0_perform 98 = .ok (.putfield 31, 3) := by decide +kernel
theorem dX0_perform_101 : decode cX0_perform 101 = .ok (.aload_n 0, 1) := by decide +kernel
theorem dX0_perform_102 : decode cX0_perform 102 = .ok (.iload 7, 2) := by decide +kernel
theorem dX0_perform_104 : decode cX0_perform 104 = .ok (.aload_n 1, 1) := by decide +kernel
theorem dX0_perform_105 : decode cX0_perform 105 = .ok (.getstatic 28, 3) := by decide +kernel
theorem dX0_perform_108 : decode cX0_perform 108 = .ok (.iload 6, 2) := by decide +kernel
theorem dX0_perform_110 : decode cX0_perform 110 = .ok (.iaload, 1) := by decide +kernel
theorem dX0_perform_111 : decode cX0_perform 111 = .ok (.iload 4, 2) := by decide +kernel
theorem dX0_perform_113 : decode cX0_perform 113 = .ok (.iload 5, 2) := by decide +kernel
theorem dX0_perform_115 : decode cX0_perform 115 = .ok (.iconst 1, 1) := by decide +kernel
theorem dX0_perform_116 : decode cX0_perform 116 = .ok (.iadd, 1) := by decide +kernel
theorem dX0_perform_117 : decode cX0_perform 117 = .ok (.invokevirtual 34, 3) := by decide +kernel
theorem dX0_perform_120 : decode cX0_perform 120 = .ok (.ireturn, 1) := by decide +kernel
theorem oA_perform : zok yX0_perform 5 := by decide +kernel
theorem dX0_runBody_0 : decode cX0_runBody 0 = .ok (.iload_n 1, 1) := by decide +kernel
theorem dX0_runBody_1 : decode cX0_runBody 1 = .ok (.lookupswitch 283 #[(10, 99), (11, 107), (12, 127), (20, 144), (30, 159), (40, 173), (50, 199), (51, 212), (60, 226), (70, 243), (71, 266)], 99) := by decide +kernel
theorem dX0_runBody_100 : decode cX0_runBody 100 = .ok (.iload 4, 2) := by decide +kernel
theorem dX0_runBody_102 : decode cX0_runBody 102 = .ok (.aload_n 2, 1) := by decide +kernel
theorem dX0_runBody_103 : decode cX0_runBody 103 = .ok (.getfield 38, 3) := by decide +kernel
theorem dX0_runBody_106 : decode cX0_runBody 106 = .ok (.iadd, 1) := by decide +kernel
theorem dX0_runBody_107 : decode cX0_runBody 107 = .ok (.ireturn, 1) := by decide +kernel
theorem dX0_runBody_108 : decode cX0_runBody 108 = .ok (.aload_n 0, 1) := by decide +kernel
theorem dX0_runBody_109 : decode cX0_runBody 109 = .ok (.aload_n 2, 1) := by decide +kernel
theorem dX0_runBody_110 : decode cX0_runBody 110 = .ok (.aload_n 2, 1) := by decide +kernel
theorem dX0_runBody_111 : decode cX0_runBody 111 = .ok (.getfield 15, 3) := by decide +kernel
theorem dX0_runBody_114 : decode cX0_runBody 114 = .ok (.iconst 0, 1) := by decide +kernel
theorem dX0_runBody_115 : decode cX0_runBody 115 = .ok (.iload 4, 2) := by decide +kernel
theorem dX0_runBody_117 : decode cX0_runBody 117 = .ok (.iload 5, 2) := by decide +kernel
theorem dX0_runBody_119 : decode cX0_runBody 119 = .ok (.invokevirtual 21, 3) := by decide +kernel
theorem dX0_runBody_122 : decode cX0_runBody 122 = .ok (.aload_n 2, 1) := by decide +kernel
theorem dX0_runBody_123 : decode cX0_runBody 123 = .ok (.getfield 41, 3) := by decide +kernel
theorem dX0_runBody_126 : decode cX0_runBody 126 = .ok (.isub, 1) := by decide +kernel
theorem dX0_runBody_127 : decode cX0_runBody 127 = .ok (.ireturn, 1) := by decide +kernel
theorem dX0_runBody_128 : decode cX0_runBody 128 = .ok (.aload_n 0, 1) := by decide +kernel
theorem dX0_runBody_129 : decode cX0_runBody 129 = .ok (.aload_n 2, 1) := by decide +kernel
theorem dX0_runBody_130 : decode cX0_runBody 130 = .ok (.aload_n 2, 1) := by decide +kernel
theorem dX0_runBody_131 : decode cX0_runBody 131 = .ok (.getfield 15, 3) := by decide +kernel
theorem dX0_runBody_134 : decode cX0_runBody 134 = .ok (.iconst 1, 1) := by decide +kernel
theorem dX0_runBody_135 : decode cX0_runBody 135 = .ok (.iload 4, 2) := by decide +kernel
theorem dX0_runBody_137 : decode cX0_runBody 137 = .ok (.iload 5, 2) := by decide +kernel
theorem dX0_runBody_139 : decode cX0_runBody 139 = .ok (.invokevirtual 21, 3) := by decide +kernel
theorem dX0_runBody_142 : decode cX0_runBody 142 = .ok (.iconst 2, 1) := by decide +kernel
theorem dX0_runBody_143 : decode cX0_runBody 143 = .ok (.imul, 1) := by decide +kernel
theorem dX0_runBody_144 : decode cX0_runBody 144 = .ok (.ireturn, 1) := by decide +kernel
theorem dX0_runBody_145 : decode cX0_runBody 145 = .ok (.aload_n 0, 1) := by decide +kernel
theorem dX0_runBody_146 : decode cX0_runBody 146 = .ok (.aload_n 2, 1) := by decide +kernel
theorem dX0_runBody_147 : decode cX0_runBody 147 = .ok (.iload_n 3, 1) := by decide +kernel
theorem dX0_runBody_148 : decode cX0_runBody 148 = .ok (.iconst 1, 1) := by decide +kernel
theorem dX0_runBody_149 : decode cX0_runBody 149 = .ok (.iload 4, 2) := by decide +kernel
theorem dX0_runBody_151 : decode cX0_runBody 151 = .ok (.iload 5, 2) := by decide +kernel
theorem dX0_runBody_153 : decode cX0_runBody 153 = .ok (.invokevirtual 21, 3) := by decide +kernel
theorem dX0_runBody_156 : decode cX0_runBody 156 = .ok (.bipush 6, 2) := by decide +kernel
theorem dX0_runBody_158 : decode cX0_runBody 158 = .ok (.ixor, 1) := by decide +kernel
theorem dX0_runBody_159 : decode cX0_runBody 159 = .ok (.ireturn, 1) := by decide +kernel
theorem dX0_runBody_160 : decode cX0_runBody 160 = .ok (.aload_n 0, 1) := by decide +kernel
theorem dX0_runBody_161 : decode cX0_runBody 161 = .ok (.aload_n 2, 1) := by decide +kernel
theorem dX0_runBody_162 : decode cX0_runBody 162 = .ok (.iload_n 3, 1) := by decide +kernel
theorem dX0_runBody_163 : decode cX0_runBody 163 = .ok (.iconst 0, 1) := by decide +kernel
theorem dX0_runBody_164 : decode cX0_runBody 164 = .ok (.iload 4, 2) := by decide +kernel
theorem dX0_runBody_166 : decode cX0_runBody 166 = .ok (.iconst 3, 1) := by decide +kernel
theorem dX0_runBody_167 : decode cX0_runBody 167 = .ok (.imul, 1) := by decide +kernel
theorem dX0_runBody_168 : decode cX0_runBody 168 = .ok (.iload 5, 2) := by decide +kernel
theorem dX0_runBody_170 : decode cX0_runBody 170 = .ok (.invokevirtual 21, 3) := by decide +kernel
theorem dX0_runBody_173 : decode cX0_runBody 173 = .ok (.ireturn, 1) := by decide +kernel
theorem dX0_runBody_174 : decode cX0_runBody 174 = .ok (.aload_n 0, 1) := by decide +kernel
theorem dX0_runBody_175 : decode cX0_runBody 175 = .ok (.aload_n 2, 1) := by decide +kernel
theorem dX0_runBody_176 : decode cX0_runBody 176 = .ok (.iload_n 3, 1) := by decide +kernel
theorem dX0_runBody_177 : decode cX0_runBody 177 = .ok (.iconst 2, 1) := by decide +kernel
theorem dX0_runBody_178 : decode cX0_runBody 178 = .ok (.iload 4, 2) := by decide +kernel
theorem dX0_runBody_180 : decode cX0_runBody 180 = .ok (.iload 5, 2) := by decide +kernel
theorem dX0_runBody_182 : decode cX0_runBody 182 = .ok (.invokevirtual 21, 3) := by decide +kernel
theorem dX0_runBody_185 : decode cX0_runBody 185 = .ok (.aload_n 0, 1) := by decide +kernel
theorem dX0_runBody_186 : decode cX0_runBody 186 = .ok (.aload_n 2, 1) := by decide +kernel
theorem dX0_runBody_187 : decode cX0_runBody 187 = .ok (.aload_n 2, 1) := by decide +kernel
theorem dX0_runBody_188 : decode cX0_runBody 188 = .ok (.getfield 15, 3) := by decide +kernel
theorem dX0_runBody_191 : decode cX0_runBody 191 = .ok (.iconst 1, 1) := by decide +kernel
theorem dX0_runBody_192 : decode cX0_runBody 192 = .ok (.iconst 1, 1) := by decide +kernel
theorem dX0_runBody_193 : decode cX0_runBody 193 = .ok (.iload 5, 2) := by decide +kernel
theorem dX0_runBody_195 : decode cX0_runBody 195 = .ok (.invokevirtual 21, 3) := by decide +kernel
theorem dX0_runBody_198 : decode cX0_runBody 198 = .ok (.iadd, 1) := by decide +kernel
theorem dX0_runBody_199 : decode cX0_runBody 199 = .ok (.ireturn, 1) := by decide +kernel
theorem dX0_runBody_200 : decode cX0_runBody 200 = .ok (.aload_n 0, 1) := by decide +kernel
theorem dX0_runBody_201 : decode cX0_runBody 201 = .ok (.aload_n 2, 1) := by decide +kernel
theorem dX0_runBody_202 : decode cX0_runBody 202 = .ok (.iload_n 3, 1) := by decide +kernel
theorem dX0_runBody_203 : decode cX0_runBody 203 = .ok (.iconst 0, 1) := by decide +kernel
theorem dX0_runBody_204 : decode cX0_runBody 204 = .ok (.iload 4, 2) := by decide +kernel
theorem dX0_runBody_206 : decode cX0_runBody 206 = .ok (.iload 5, 2) := by decide +kernel
theorem dX0_runBody_208 : decode cX0_runBody 208 = .ok (.invokevirtual 21, 3) := by decide +kernel
theorem dX0_runBody_211 : decode cX0_runBody 211 = .ok (.ineg, 1) := by decide +kernel
theorem dX0_runBody_212 : decode cX0_runBody 212 = .ok (.ireturn, 1) := by decide +kernel
theorem dX0_runBody_213 : decode cX0_runBody 213 = .ok (.aload_n 0, 1) := by decide +kernel
theorem dX0_runBody_214 : decode cX0_runBody 214 = .ok (.aload_n 2, 1) := by decide +kernel
theorem dX0_runBody_215 : decode cX0_runBody 215 = .ok (.iload_n 3, 1) := by decide +kernel
theorem dX0_runBody_216 : decode cX0_runBody 216 = .ok (.iconst 1, 1) := by decide +kernel
theorem dX0_runBody_217 : decode cX0_runBody 217 = .ok (.iload 4, 2) := by decide +kernel
theorem dX0_runBody_219 : decode cX0_runBody 219 = .ok (.iconst 1, 1) := by decide +kernel
theorem dX0_runBody_220 : decode cX0_runBody 220 = .ok (.iadd, 1) := by decide +kernel
theorem dX0_runBody_221 : decode cX0_runBody 221 = .ok (.iload 5, 2) := by decide +kernel
theorem dX0_runBody_223 : decode cX0_runBody 223 = .ok (.invokevirtual 21, 3) := by decide +kernel
theorem dX0_runBody_226 : decode cX0_runBody 226 = .ok (.ireturn, 1) := by decide +kernel
theorem dX0_runBody_227 : decode cX0_runBody 227 = .ok (.aload_n 0, 1) := by decide +kernel
theorem dX0_runBody_228 : decode cX0_runBody 228 = .ok (.aload_n 2, 1) := by decide +kernel
theorem dX0_runBody_229 : decode cX0_runBody 229 = .ok (.iload_n 3, 1) := by decide +kernel
theorem dX0_runBody_230 : decode cX0_runBody 230 = .ok (.iconst 2, 1) := by decide +kernel
theorem dX0_runBody_231 : decode cX0_runBody 231 = .ok (.iload 4, 2) := by decide +kernel
theorem dX0_runBody_233 : decode cX0_runBody 233 = .ok (.aload_n 2, 1) := by decide +kernel
theorem dX0_runBody_234 : decode cX0_runBody 234 = .ok (.getfield 38, 3) := by decide +kernel
theorem dX0_runBody_237 : decode cX0_runBody 237 = .ok (.isub, 1) := by decide +kernel
theorem dX0_runBody_238 : decode cX0_runBody 238 = .ok (.iload 5, 2) := by decide +kernel
theorem dX0_runBody_240 : decode cX0_runBody 240 = .ok (.invokevirtual 21, 3) := by decide +kernel
theorem dX0_runBody_243 : decode cX0_runBody 243 = .ok (.ireturn, 1) := by decide +kernel
theorem dX0_runBody_244 : decode cX0_runBody 244 = .ok (.aload_n 0, 1) := by decide +kernel
theorem dX0_runBody_245 : decode cX0_runBody 245 = .ok (.aload_n 2, 1) := by decide +kernel
theorem dX0_runBody_246 : decode cX0_runBody 246 = .ok (.iload_n 3, 1) := by decide +kernel
theorem dX0_runBody_247 : decode cX0_runBody 247 = .ok (.iconst 1, 1) := by decide +kernel
theorem dX0_runBody_248 : decode cX0_runBody 248 = .ok (.iload 4, 2) := by decide +kernel
theorem dX0_runBody_250 : decode cX0_runBody 250 = .ok (.iload 5, 2) := by decide +kernel
theorem dX0_runBody_252 : decode cX0_runBody 252 = .ok (.invokevirtual 21, 3) := by decide +kernel
theorem dX0_runBody_255 : decode cX0_runBody 255 = .ok (.aload_n 0, 1) := by decide +kernel
theorem dX0_runBody_256 : decode cX0_runBody 256 = .ok (.aload_n 2, 1) := by decide +kernel
theorem dX0_runBody_257 : decode cX0_runBody 257 = .ok (.iload_n 3, 1) := by decide +kernel
theorem dX0_runBody_258 : decode cX0_runBody 258 = .ok (.iconst 0, 1) := by decide +kernel
theorem dX0_runBody_259 : decode cX0_runBody 259 = .ok (.iconst 2, 1) := by decide +kernel
theorem dX0_runBody_260 : decode cX0_runBody 260 = .ok (.iload 5, 2) := by decide +kernel
theorem dX0_runBody_262 : decode cX0_runBody 262 = .ok (.invokevirtual 21, 3) := by decide +kernel
theorem dX0_runBody_265 : decode cX0_runBody 265 = .ok (.iadd, 1) := by decide +kernel
theorem dX0_runBody_266 : decode cX0_runBody 266 = .ok (.ireturn, 1) := by decide +kernel
theorem dX0_runBody_267 : decode cX0_runBody 267 = .ok (.aload_n 0, 1) := by decide +kernel
theorem dX0_runBody_268 : decode cX0_runBody 268 = .ok (.aload_n 2, 1) := by decide +kernel
theorem dX0_runBody_269 : decode cX0_runBody 269 = .ok (.iload_n 3, 1) := by decide +kernel
theorem dX0_runBody_270 : decode cX0_runBody 270 = .ok (.iconst 0, 1) := by decide +kernel
theorem dX0_runBody_271 : decode cX0_runBody 271 = .ok (.iload 4, 2) := by decide +kernel
theorem dX0_runBody_273 : decode cX0_runBody 273 = .ok (.iload 5, 2) := by decide +kernel
theorem dX0_runBody_275 : decode cX0_runBody 275 = .ok (.invokevirtual 21, 3) := by decide +kernel
theorem dX0_runBody_278 : decode cX0_runBody 278 = .ok (.aload_n 2, 1) := by decide +kernel
theorem dX0_runBody_279 : decode cX0_runBody 279 = .ok (.getfield 41, 3) := by decide +kernel
theorem dX0_runBody_282 : decode cX0_runBody 282 = .ok (.ixor, 1) := by decide +kernel
theorem dX0_runBody_283 : decode cX0_runBody 283 = .ok (.ireturn, 1) := by decide +kernel
theorem dX0_runBody_284 : decode cX0_runBody 284 = .ok (.iconst 0, 1) := by decide +kernel
theorem dX0_runBody_285 : decode cX0_runBody 285 = .ok (.ireturn, 1) := by decide +kernel
theorem oA_runBody : zok yX0_runBody 5 := by decide +kernel
theorem dX7_trace_0 : decode cX7_trace 0 = .ok (.iload_n 1, 1) := by decide +kernel
theorem dX7_trace_1 : decode cX7_trace 1 = .ok (.ifCond .lt 20, 3) := by decide +kernel
theorem dX7_trace_4 : decode cX7_trace 4 = .ok (.iload_n 1, 1) := by decide +kernel
theorem dX7_trace_5 : decode cX7_trace 5 = .ok (.aload_n 0, 1) := by decide +kernel
theorem dX7_trace_6 : decode cX7_trace 6 = .ok (.getfield 62, 3) := by decide +kernel
theorem dX7_trace_9 : decode cX7_trace 9 = .ok (.getfield 240, 3) := by decide +kernel
theorem dX7_trace_12 : decode cX7_trace 12 = .ok (.if_icmp .ge 9, 3) := by decide +kernel
theorem dX7_trace_15 : decode cX7_trace 15 = .ok (.iload_n 1, 1) := by decide +kernel
theorem dX7_trace_16 : decode cX7_trace 16 = .ok (.bipush 20, 2) := by decide +kernel
theorem dX7_trace_18 : decode cX7_trace 18 = .ok (.if_icmp .lt 7, 3) := by decide +kernel
theorem dX7_trace_21 : decode cX7_trace 21 = .ok (.iconst (-1), 1) := by decide +kernel
theorem dX7_trace_22 : decode cX7_trace 22 = .ok (.goto 12, 3) := by decide +kernel
theorem dX7_trace_25 : decode cX7_trace 25 = .ok (.aload_n 0, 1) := by decide +kernel
theorem dX7_trace_26 : decode cX7_trace 26 = .ok (.getfield 62, 3) := by decide +kernel
theorem dX7_trace_29 : decode cX7_trace 29 = .ok (.getfield 247, 3) := by decide +kernel
theorem dX7_trace_32 : decode cX7_trace 32 = .ok (.iload_n 1, 1) := by decide +kernel
theorem dX7_trace_33 : decode cX7_trace 33 = .ok (.iaload, 1) := by decide +kernel
theorem dX7_trace_34 : decode cX7_trace 34 = .ok (.ireturn, 1) := by decide +kernel
theorem oG_trace : zok yX7_trace 1 := by decide +kernel
theorem dX7_taken_0 : decode cX7_taken 0 = .ok (.iload_n 2, 1) := by decide +kernel
theorem dX7_taken_1 : decode cX7_taken 1 = .ok (.ifCond .lt 9, 3) := by decide +kernel
theorem dX7_taken_4 : decode cX7_taken 4 = .ok (.iload_n 2, 1) := by decide +kernel
theorem dX7_taken_5 : decode cX7_taken 5 = .ok (.bipush 7, 2) := by decide +kernel
theorem dX7_taken_7 : decode cX7_taken 7 = .ok (.if_icmp .lt 6, 3) := by decide +kernel
theorem dX7_taken_10 : decode cX7_taken 10 = .ok (.bipush (-2), 2) := by decide +kernel
theorem dX7_taken_12 : decode cX7_taken 12 = .ok (.ireturn, 1) := by decide +kernel
theorem dX7_taken_13 : decode cX7_taken 13 = .ok (.aload_n 0, 1) := by decide +kernel
theorem dX7_taken_14 : decode cX7_taken 14 = .ok (.getfield 12, 3) := by decide +kernel
theorem dX7_taken_17 : decode cX7_taken 17 = .ok (.iload_n 1, 1) := by decide +kernel
theorem dX7_taken_18 : decode cX7_taken 18 = .ok (.invokevirtual 81, 3) := by decide +kernel
theorem dX7_taken_21 : decode cX7_taken 21 = .ok (.ifCond .ne 6, 3) := by decide +kernel
theorem dX7_taken_24 : decode cX7_taken 24 = .ok (.bipush (-11), 2) := by decide +kernel
theorem dX7_taken_26 : decode cX7_taken 26 = .ok (.ireturn, 1) := by decide +kernel
theorem dX7_taken_27 : decode cX7_taken 27 = .ok (.aload_n 0, 1) := by decide +kernel
theorem dX7_taken_28 : decode cX7_taken 28 = .ok (.getfield 12, 3) := by decide +kernel
theorem dX7_taken_31 : decode cX7_taken 31 = .ok (.getfield 88, 3) := by decide +kernel
theorem dX7_taken_34 : decode cX7_taken 34 = .ok (.iload_n 1, 1) := by decide +kernel
theorem dX7_taken_35 : decode cX7_taken 35 = .ok (.aaload, 1) := by decide +kernel
theorem dX7_taken_36 : decode cX7_taken 36 = .ok (.getfield 111, 3) := by decide +kernel
theorem dX7_taken_39 : decode cX7_taken 39 = .ok (.istore_n 3, 1) := by decide +kernel
theorem dX7_taken_40 : decode cX7_taken 40 = .ok (.iload_n 3, 1) := by decide +kernel
theorem dX7_taken_41 : decode cX7_taken 41 = .ok (.iload_n 2, 1) := by decide +kernel
theorem dX7_taken_42 : decode cX7_taken 42 = .ok (.invokestatic 182, 3) := by decide +kernel
theorem dX7_taken_45 : decode cX7_taken 45 = .ok (.ifCond .eq 7, 3) := by decide +kernel
theorem dX7_taken_48 : decode cX7_taken 48 = .ok (.iload_n 3, 1) := by decide +kernel
theorem dX7_taken_49 : decode cX7_taken 49 = .ok (.goto 5, 3) := by decide +kernel
theorem dX7_taken_52 : decode cX7_taken 52 = .ok (.bipush (-12), 2) := by decide +kernel
theorem dX7_taken_54 : decode cX7_taken 54 = .ok (.ireturn, 1) := by decide +kernel
theorem oG_taken : zok yX7_taken 2 := by decide +kernel
theorem dX7_count_0 : decode cX7_count 0 = .ok (.iload_n 1, 1) := by decide +kernel
theorem dX7_count_1 : decode cX7_count 1 = .ok (.tableswitch 72 0 4 #[35, 43, 48, 56, 64], 35) := by decide +kernel
theorem dX7_count_36 : decode cX7_count 36 = .ok (.aload_n 0, 1) := by decide +kernel
theorem dX7_count_37 : decode cX7_count 37 = .ok (.getfield 12, 3) := by decide +kernel
theorem dX7_count_40 : decode cX7_count 40 = .ok (.getfield 73, 3) := by decide +kernel
theorem dX7_count_43 : decode cX7_count 43 = .ok (.ireturn, 1) := by decide +kernel
theorem dX7_count_44 : decode cX7_count 44 = .ok (.aload_n 0, 1) := by decide +kernel
theorem dX7_count_45 : decode cX7_count 45 = .ok (.getfield 123, 3) := by decide +kernel
theorem dX7_count_48 : decode cX7_count 48 = .ok (.ireturn, 1) := by decide +kernel
theorem dX7_count_49 : decode cX7_count 49 = .ok (.aload_n 0, 1) := by decide +kernel
theorem dX7_count_50 : decode cX7_count 50 = .ok (.getfield 12, 3) := by decide +kernel
theorem dX7_count_53 : decode cX7_count 53 = .ok (.getfield 213, 3) := by decide +kernel
theorem dX7_count_56 : decode cX7_count 56 = .ok (.ireturn, 1) := by decide +kernel
theorem dX7_count_57 : decode cX7_count 57 = .ok (.aload_n 0, 1) := by decide +kernel
theorem dX7_count_58 : decode cX7_count 58 = .ok (.getfield 27, 3) := by decide +kernel
theorem dX7_count_61 : decode cX7_count 61 = .ok (.getfield 117, 3) := by decide +kernel
theorem dX7_count_64 : decode cX7_count 64 = .ok (.ireturn, 1) := by decide +kernel
theorem dX7_count_65 : decode cX7_count 65 = .ok (.aload_n 0, 1) := by decide +kernel
theorem dX7_count_66 : decode cX7_count 66 = .ok (.getfield 62, 3) := by decide +kernel
theorem dX7_count_69 : decode cX7_count 69 = .ok (.getfield 240, 3) := by decide +kernel
theorem dX7_count_72 : decode cX7_count 72 = .ok (.ireturn, 1) := by decide +kernel
theorem dX7_count_73 : decode cX7_count 73 = .ok (.bipush (-2), 2) := by decide +kernel
theorem dX7_count_75 : decode cX7_count 75 = .ok (.ireturn, 1) := by decide +kernel
theorem oG_count : zok yX7_count 1 := by decide +kernel
theorem dX7_tape_0 : decode cX7_tape 0 = .ok (.aload_n 0, 1) := by decide +kernel
theorem dX7_tape_1 : decode cX7_tape 1 = .ok (.getfield 69, 3) := by decide +kernel
theorem dX7_tape_4 : decode cX7_tape 4 = .ok (.iload_n 1, 1) := by decide +kernel
theorem dX7_tape_5 : decode cX7_tape 5 = .ok (.invokevirtual 223, 3) := by decide +kernel
theorem dX7_tape_8 : decode cX7_tape 8 = .ok (.ifCond .ne 5, 3) := by decide +kernel
theorem dX7_tape_11 : decode cX7_tape 11 = .ok (.iconst (-1), 1) := by decide +kernel
theorem dX7_tape_12 : decode cX7_tape 12 = .ok (.ireturn, 1) := by decide +kernel
theorem dX7_tape_13 : decode cX7_tape 13 = .ok (.iload_n 2, 1) := by decide +kernel
theorem dX7_tape_14 : decode cX7_tape 14 = .ok (.iconst (-1), 1) := by decide +kernel
theorem dX7_tape_15 : decode cX7_tape 15 = .ok (.if_icmp .ne 15, 3) := by decide +kernel
theorem dX7_tape_18 : decode cX7_tape 18 = .ok (.aload_n 0, 1) := by decide +kernel
theorem dX7_tape_19 : decode cX7_tape 19 = .ok (.getfield 69, 3) := by decide +kernel
theorem dX7_tape_22 : decode cX7_tape 22 = .ok (.iload_n 1, 1) := by decide +kernel
theorem dX7_tape_23 : decode cX7_tape 23 = .ok (.iconst (-1), 1) := by decide +kernel
theorem dX7_tape_24 : decode cX7_tape 24 = .ok (.iconst 0, 1) := by decide +kernel
theorem dX7_tape_25 : decode cX7_tape 25 = .ok (.invokevirtual 250, 3) := by decide +kernel
theorem dX7_tape_28 : decode cX7_tape 28 = .ok (.iconst 1, 1) := by decide +kernel
theorem dX7_tape_29 : decode cX7_tape 29 = .ok (.ireturn, 1) := by decide +kernel
theorem dX7_tape_30 : decode cX7_tape 30 = .ok (.iload_n 2, 1) := by decide +kernel
theorem dX7_tape_31 : decode cX7_tape 31 = .ok (.ifCond .lt 14, 3) := by decide +kernel
theorem dX7_tape_34 : decode cX7_tape 34 = .ok (.iload_n 2, 1) := by decide +kernel
theorem dX7_tape_35 : decode cX7_tape 35 = .ok (.iconst 5, 1) := by decide +kernel
theorem dX7_tape_36 : decode cX7_tape 36 = .ok (.if_icmp .ge 9, 3) := by decide +kernel
theorem dX7_tape_39 : decode cX7_tape 39 = .ok (.iload_n 3, 1) := by decide +kernel
theorem dX7_tape_40 : decode cX7_tape 40 = .ok (.bipush 60, 2) := by decide +kernel
theorem dX7_tape_42 : decode cX7_tape 42 = .ok (.if_icmp .le 6, 3) := by decide +kernel
theorem dX7_tape_45 : decode cX7_tape 45 = .ok (.bipush (-2), 2) := by decide +kernel
theorem dX7_tape_47 : decode cX7_tape 47 = .ok (.ireturn, 1) := by decide +kernel
theorem dX7_tape_48 : decode cX7_tape 48 = .ok (.iload_n 3, 1) := by decide +kernel
theorem dX7_tape_49 : decode cX7_tape 49 = .ok (.ifCond .ge 6, 3) := by decide +kernel
theorem dX7_tape_52 : decode cX7_tape 52 = .ok (.bipush (-14), 2) := by decide +kernel
theorem dX7_tape_54 : decode cX7_tape 54 = .ok (.ireturn, 1) := by decide +kernel
theorem dX7_tape_55 : decode cX7_tape 55 = .ok (.aload_n 0, 1) := by decide +kernel
theorem dX7_tape_56 : decode cX7_tape 56 = .ok (.getfield 69, 3) := by decide +kernel
theorem dX7_tape_59 : decode cX7_tape 59 = .ok (.iload_n 1, 1) := by decide +kernel
theorem dX7_tape_60 : decode cX7_tape 60 = .ok (.iload_n 2, 1) := by decide +kernel
theorem dX7_tape_61 : decode cX7_tape 61 = .ok (.iload_n 3, 1) := by decide +kernel
theorem dX7_tape_62 : decode cX7_tape 62 = .ok (.invokevirtual 250, 3) := by decide +kernel
theorem dX7_tape_65 : decode cX7_tape 65 = .ok (.iconst 1, 1) := by decide +kernel
theorem dX7_tape_66 : decode cX7_tape 66 = .ok (.ireturn, 1) := by decide +kernel
theorem oG_tape : zok yX7_tape 3 := by decide +kernel
theorem dX5_lay_0 : decode cX5_lay 0 = .ok (.aload_n 0, 1) := by decide +kernel
theorem dX5_lay_1 : decode cX5_lay 1 = .ok (.getfield 9, 3) := by decide +kernel
theorem dX5_lay_4 : decode cX5_lay 4 = .ok (.iload_n 1, 1) := by decide +kernel
theorem dX5_lay_5 : decode cX5_lay 5 = .ok (.iload_n 2, 1) := by decide +kernel
theorem dX5_lay_6 : decode cX5_lay 6 = .ok (.iastore, 1) := by decide +kernel
theorem dX5_lay_7 : decode cX5_lay 7 = .ok (.aload_n 0, 1) := by decide +kernel
theorem dX5_lay_8 : decode cX5_lay 8 = .ok (.getfield 13, 3) := by decide +kernel
theorem dX5_lay_11 : decode cX5_lay 11 = .ok (.iload_n 1, 1) := by decide +kernel
theorem dX5_lay_12 : decode cX5_lay 12 = .ok (.iload_n 3, 1) := by decide +kernel
theorem dX5_lay_13 : decode cX5_lay 13 = .ok (.iastore, 1) := by decide +kernel
theorem dX5_lay_14 : decode cX5_lay 14 = .ok (.iconst 0, 1) := by decide +kernel
theorem dX5_lay_15 : decode cX5_lay 15 = .ok (.istore 4, 2) := by decide +kernel
theorem dX5_lay_17 : decode cX5_lay 17 = .ok (.iload 4, 2) := by decide +kernel
theorem dX5_lay_19 : decode cX5_lay 19 = .ok (.iload_n 3, 1) := by decide +kernel
theorem dX5_lay_20 : decode cX5_lay 20 = .ok (.if_icmp .ge 22, 3) := by decide +kernel
theorem dX5_lay_23 : decode cX5_lay 23 = .ok (.aload_n 0, 1) := by decide +kernel
theorem dX5_lay_24 : decode cX5_lay 24 = .ok (.getfield 16, 3) := by decide +kernel
theorem dX5_lay_27 : decode cX5_lay 27 = .ok (.iload_n 1, 1) := by decide +kernel
theorem dX5_lay_28 : decode cX5_lay 28 = .ok (.bipush 60, 2) := by decide +kernel
theorem dX5_lay_30 : decode cX5_lay 30 = .ok (.imul, 1) := by decide +kernel
theorem dX5_lay_31 : decode cX5_lay 31 = .ok (.iload 4, 2) := by decide +kernel
theorem dX5_lay_33 : decode cX5_lay 33 = .ok (.iadd, 1) := by decide +kernel
theorem dX5_lay_34 : decode cX5_lay 34 = .ok (.lconst 0, 1) := by decide +kernel
theorem dX5_lay_35 : decode cX5_lay 35 = .ok (.lastore, 1) := by decide +kernel
theorem dX5_lay_36 : decode cX5_lay 36 = .ok (.iinc 4 1, 3) := by decide +kernel
theorem dX5_lay_39 : decode cX5_lay 39 = .ok (.goto (-22), 3) := by decide +kernel
theorem dX5_lay_42 : decode cX5_lay 42 = .ok (.return_, 1) := by decide +kernel
theorem oK_lay : zok yX5_lay 3 := by decide +kernel
theorem dX7_item_0 : decode cX7_item 0 = .ok (.aload_n 0, 1) := by decide +kernel
theorem dX7_item_1 : decode cX7_item 1 = .ok (.getfield 69, 3) := by decide +kernel
theorem dX7_item_4 : decode cX7_item 4 = .ok (.iload_n 1, 1) := by decide +kernel
theorem dX7_item_5 : decode cX7_item 5 = .ok (.invokevirtual 223, 3) := by decide +kernel
theorem dX7_item_8 : decode cX7_item 8 = .ok (.ifCond .ne 5, 3) := by decide +kernel
theorem dX7_item_11 : decode cX7_item 11 = .ok (.iconst (-1), 1) := by decide +kernel
theorem dX7_item_12 : decode cX7_item 12 = .ok (.ireturn, 1) := by decide +kernel
theorem dX7_item_13 : decode cX7_item 13 = .ok (.aload_n 0, 1) := by decide +kernel
theorem dX7_item_14 : decode cX7_item 14 = .ok (.getfield 69, 3) := by decide +kernel
theorem dX7_item_17 : decode cX7_item 17 = .ok (.iload_n 1, 1) := by decide +kernel
theorem dX7_item_18 : decode cX7_item 18 = .ok (.invokevirtual 224, 3) := by decide +kernel
theorem dX7_item_21 : decode cX7_item 21 = .ok (.ifCond .ne 6, 3) := by decide +kernel
theorem dX7_item_24 : decode cX7_item 24 = .ok (.bipush (-11), 2) := by decide +kernel
theorem dX7_item_26 : decode cX7_item 26 = .ok (.ireturn, 1) := by decide +kernel
theorem dX7_item_27 : decode cX7_item 27 = .ok (.aload_n 0, 1) := by decide +kernel
theorem dX7_item_28 : decode cX7_item 28 = .ok (.getfield 69, 3) := by decide +kernel
theorem dX7_item_31 : decode cX7_item 31 = .ok (.iload_n 1, 1) := by decide +kernel
theorem dX7_item_32 : decode cX7_item 32 = .ok (.iload_n 2, 1) := by decide +kernel
theorem dX7_item_33 : decode cX7_item 33 = .ok (.invokevirtual 254, 3) := by decide +kernel
theorem dX7_item_36 : decode cX7_item 36 = .ok (.ifCond .ne 6, 3) := by decide +kernel
theorem dX7_item_39 : decode cX7_item 39 = .ok (.bipush (-13), 2) := by decide +kernel
theorem dX7_item_41 : decode cX7_item 41 = .ok (.ireturn, 1) := by decide +kernel
theorem dX7_item_42 : decode cX7_item 42 = .ok (.aload_n 0, 1) := by decide +kernel
theorem dX7_item_43 : decode cX7_item 43 = .ok (.getfield 69, 3) := by decide +kernel
theorem dX7_item_46 : decode cX7_item 46 = .ok (.iload_n 1, 1) := by decide +kernel
theorem dX7_item_47 : decode cX7_item 47 = .ok (.iload_n 2, 1) := by decide +kernel
theorem dX7_item_48 : decode cX7_item 48 = .ok (.lload_n 3, 1) := by decide +kernel
theorem dX7_item_49 : decode cX7_item 49 = .ok (.invokevirtual 257, 3) := by decide +kernel
theorem dX7_item_52 : decode cX7_item 52 = .ok (.iconst 1, 1) := by decide +kernel
theorem dX7_item_53 : decode cX7_item 53 = .ok (.ireturn, 1) := by decide +kernel
theorem oG_item : zok yX7_item 3 := by decide +kernel
theorem dX5_hasPlace_0 : decode cX5_hasPlace 0 = .ok (.iload_n 2, 1) := by decide +kernel
theorem dX5_hasPlace_1 : decode cX5_hasPlace 1 = .ok (.ifCond .lt 17, 3) := by decide +kernel
theorem dX5_hasPlace_4 : decode cX5_hasPlace 4 = .ok (.iload_n 2, 1) := by decide +kernel
theorem dX5_hasPlace_5 : decode cX5_hasPlace 5 = .ok (.aload_n 0, 1) := by decide +kernel
theorem dX5_hasPlace_6 : decode cX5_hasPlace 6 = .ok (.getfield 13, 3) := by decide +kernel
theorem dX5_hasPlace_9 : decode cX5_hasPlace 9 = .ok (.iload_n 1, 1) := by decide +kernel
theorem dX5_hasPlace_10 : decode cX5_hasPlace 10 = .ok (.iaload, 1) := by decide +kernel
theorem dX5_hasPlace_11 : decode cX5_hasPlace 11 = .ok (.if_icmp .ge 7, 3) := by decide +kernel
theorem dX5_hasPlace_14 : decode cX5_hasPlace 14 = .ok (.iconst 1, 1) := by decide +kernel
theorem dX5_hasPlace_15 : decode cX5_hasPlace 15 = .ok (.goto 4, 3) := by decide +kernel
theorem dX5_hasPlace_18 : decode cX5_hasPlace 18 = .ok (.iconst 0, 1) := by decide +kernel
theorem dX5_hasPlace_19 : decode cX5_hasPlace 19 = .ok (.ireturn, 1) := by decide +kernel
theorem oK_hasPlace : zok yX5_hasPlace 2 := by decide +kernel
theorem dX5_put_0 : decode cX5_put 0 = .ok (.aload_n 0, 1) := by decide +kernel
theorem dX5_put_1 : decode cX5_put 1 = .ok (.getfield 16, 3) := by decide +kernel
theorem dX5_put_4 : decode cX5_put 4 = .ok (.iload_n 1, 1) := by decide +kernel
theorem dX5_put_5 : decode cX5_put 5 = .ok (.bipush 60, 2) := by decide +kernel
theorem dX5_put_7 : decode cX5_put 7 = .ok (.imul, 1) := by decide +kernel
theorem dX5_put_8 : decode cX5_put 8 = .ok (.iload_n 2, 1) := by decide +kernel
theorem dX5_put_9 : decode cX5_put 9 = .ok (.iadd, 1) := by decide +kernel
theorem dX5_put_10 : decode cX5_put 10 = .ok (.aload_n 0, 1) := by decide +kernel
theorem dX5_put_11 : decode cX5_put 11 = .ok (.getfield 9, 3) := by decide +kernel
theorem dX5_put_14 : decode cX5_put 14 = .ok (.iload_n 1, 1) := by decide +kernel
theorem dX5_put_15 : decode cX5_put 15 = .ok (.iaload, 1) := by decide +kernel
theorem dX5_put_16 : decode cX5_put 16 = .ok (.lload_n 3, 1) := by decide +kernel
theorem dX5_put_17 : decode cX5_put 17 = .ok (.invokestatic 20, 3) := by decide +kernel
theorem dX5_put_20 : decode cX5_put 20 = .ok (.lastore, 1) := by decide +kernel
theorem dX5_put_21 : decode cX5_put 21 = .ok (.return_, 1) := by decide +kernel
theorem oK_put : zok yX5_put 3 := by decide +kernel
theorem dX5_cut_0 : decode cX5_cut 0 = .ok (.iload_n 0, 1) := by decide +kernel
theorem dX5_cut_1 : decode cX5_cut 1 = .ok (.tableswitch 47 0 3 #[31, 36, 41, 45], 31) := by decide +kernel
theorem dX5_cut_32 : decode cX5_cut 32 = .ok (.lload_n 1, 1) := by decide +kernel
theorem dX5_cut_33 : decode cX5_cut 33 = .ok (.l2i, 1) := by decide +kernel
theorem dX5_cut_34 : decode cX5_cut 34 = .ok (.i2b, 1) := by decide +kernel
theorem dX5_cut_35 : decode cX5_cut 35 = .ok (.i2l, 1) := by decide +kernel
theorem dX5_cut_36 : decode cX5_cut 36 = .ok (.lreturn, 1) := by decide +kernel
theorem dX5_cut_37 : decode cX5_cut 37 = .ok (.lload_n 1, 1) := by decide +kernel
theorem dX5_cut_38 : decode cX5_cut 38 = .ok (.l2i, 1) := by decide +kernel
theorem dX5_cut_39 : decode cX5_cut 39 = .ok (.i2s, 1) := by decide +kernel
theorem dX5_cut_40 : decode cX5_cut 40 = .ok (.i2l, 1) := by decide +kernel
theorem dX5_cut_41 : decode cX5_cut 41 = .ok (.lreturn, 1) := by decide +kernel
theorem dX5_cut_42 : decode cX5_cut 42 = .ok (.lload_n 1, 1) := by decide +kernel
theorem dX5_cut_43 : decode cX5_cut 43 = .ok (.l2i, 1) := by decide +kernel
theorem dX5_cut_44 : decode cX5_cut 44 = .ok (.i2l, 1) := by decide +kernel
theorem dX5_cut_45 : decode cX5_cut 45 = .ok (.lreturn, 1) := by decide +kernel
theorem dX5_cut_46 : decode cX5_cut 46 = .ok (.lload_n 1, 1) := by decide +kernel
theorem dX5_cut_47 : decode cX5_cut 47 = .ok (.lreturn, 1) := by decide +kernel
theorem dX5_cut_48 : decode cX5_cut 48 = .ok (.lload_n 1, 1) := by decide +kernel
theorem dX5_cut_49 : decode cX5_cut 49 = .ok (.lconst 0, 1) := by decide +kernel
theorem dX5_cut_50 : decode cX5_cut 50 = .ok (.lcmp, 1) := by decide +kernel
theorem dX5_cut_51 : decode cX5_cut 51 = .ok (.ifCond .eq 7, 3) := by decide +kernel
theorem dX5_cut_54 : decode cX5_cut 54 = .ok (.lconst 1, 1) := by decide +kernel
theorem dX5_cut_55 : decode cX5_cut 55 = .ok (.goto 4, 3) := by decide +kernel
theorem dX5_cut_58 : decode cX5_cut 58 = .ok (.lconst 0, 1) := by decide +kernel
theorem dX5_cut_59 : decode cX5_cut 59 = .ok (.lreturn, 1) := by decide +kernel
theorem oK_cut : zok yX5_cut 2 := by decide +kernel
theorem dX7_read_0 : decode cX7_read 0 = .ok (.aload_n 0, 1) := by decide +kernel
theorem dX7_read_1 : decode cX7_read 1 = .ok (.getfield 69, 3) := by decide +kernel
theorem dX7_read_4 : decode cX7_read 4 = .ok (.iload_n 1, 1) := by decide +kernel
theorem dX7_read_5 : decode cX7_read 5 = .ok (.invokevirtual 223, 3) := by decide +kernel
theorem dX7_read_8 : decode cX7_read 8 = .ok (.ifCond .eq 27, 3) := by decide +kernel
theorem dX7_read_11 : decode cX7_read 11 = .ok (.aload_n 0, 1) := by decide +kernel
theorem dX7_read_12 : decode cX7_read 12 = .ok (.getfield 69, 3) := by decide +kernel
theorem dX7_read_15 : decode cX7_read 15 = .ok (.iload_n 1, 1) := by decide +kernel
theorem dX7_read_16 : decode cX7_read 16 = .ok (.iload_n 2, 1) := by decide +kernel
theorem dX7_read_17 : decode cX7_read 17 = .ok (.invokevirtual 254, 3) := by decide +kernel
theorem dX7_read_20 : decode cX7_read 20 = .ok (.ifCond .eq 15, 3) := by decide +kernel
theorem dX7_read_23 : decode cX7_read 23 = .ok (.aload_n 0, 1) := by decide +kernel
theorem dX7_read_24 : decode cX7_read 24 = .ok (.getfield 69, 3) := by decide +kernel
theorem dX7_read_27 : decode cX7_read 27 = .ok (.iload_n 1, 1) := by decide +kernel
theorem dX7_read_28 : decode cX7_read 28 = .ok (.iload_n 2, 1) := by decide +kernel
theorem dX7_read_29 : decode cX7_read 29 = .ok (.invokevirtual 232, 3) := by decide +kernel
theorem dX7_read_32 : decode cX7_read 32 = .ok (.goto 6, 3) := by decide +kernel
theorem dX7_read_35 : decode cX7_read 35 = .ok (.ldc2_w 207, 3) := by decide +kernel
theorem dX7_read_38 : decode cX7_read 38 = .ok (.lreturn, 1) := by decide +kernel
theorem oG_read : zok yX7_read 2 := by decide +kernel
