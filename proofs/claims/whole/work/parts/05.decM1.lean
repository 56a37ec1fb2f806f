theorem dX8_emits_0 : decode cX8_emits 0 = .ok (.aload_n 0, 1) := by decide +kernel
theorem dX8_emits_1 : decode cX8_emits 1 = .ok (.getfield 74, 3) := by decide +kernel
theorem dX8_emits_4 : decode cX8_emits 4 = .ok (.aload_n 0, 1) := by decide +kernel
theorem dX8_emits_5 : decode cX8_emits 5 = .ok (.getfield 80, 3) := by decide +kernel
theorem dX8_emits_8 : decode cX8_emits 8 = .ok (.iload_n 1, 1) := by decide +kernel
theorem dX8_emits_9 : decode cX8_emits 9 = .ok (.iastore, 1) := by decide +kernel
theorem dX8_emits_10 : decode cX8_emits 10 = .ok (.aload_n 0, 1) := by decide +kernel
theorem dX8_emits_11 : decode cX8_emits 11 = .ok (.dup, 1) := by decide +kernel
theorem dX8_emits_12 : decode cX8_emits 12 = .ok (.getfield 80, 3) := by decide +kernel
theorem dX8_emits_15 : decode cX8_emits 15 = .ok (.iconst 1, 1) := by decide +kernel
theorem dX8_emits_16 : decode cX8_emits 16 = .ok (.iadd, 1) := by decide +kernel
theorem dX8_emits_17 : decode cX8_emits 17 = .ok (.putfield 80, 3) := by decide +kernel
theorem dX8_emits_20 : decode cX8_emits 20 = .ok (.return_, 1) := by decide +kernel
theorem oM_emits : zok yX8_emits 1 := by decide +kernel
theorem dX8_whole_0 : decode cX8_whole 0 = .ok (.aload_n 0, 1) := by decide +kernel
theorem dX8_whole_1 : decode cX8_whole 1 = .ok (.getfield 83, 3) := by decide +kernel
theorem dX8_whole_4 : decode cX8_whole 4 = .ok (.ifCond .le 48, 3) := by decide +kernel
theorem dX8_whole_7 : decode cX8_whole 7 = .ok (.aload_n 0, 1) := by decide +kernel
theorem dX8_whole_8 : decode cX8_whole 8 = .ok (.getfield 77, 3) := by decide +kernel
theorem dX8_whole_11 : decode cX8_whole 11 = .ok (.aload_n 0, 1) := by decide +kernel
theorem dX8_whole_12 : decode cX8_whole 12 = .ok (.getfield 83, 3) := by decide +kernel
theorem dX8_whole_15 : decode cX8_whole 15 = .ok (.iconst 1, 1) := by decide +kernel
theorem dX8_whole_16 : decode cX8_whole 16 = .ok (.isub, 1) := by decide +kernel
theorem dX8_whole_17 : decode cX8_whole 17 = .ok (.iaload, 1) := by decide +kernel
theorem dX8_whole_18 : decode cX8_whole 18 = .ok (.bipush 33, 2) := by decide +kernel
theorem dX8_whole_20 : decode cX8_whole 20 = .ok (.if_icmp .ne 32, 3) := by decide +kernel
theorem dX8_whole_23 : decode cX8_whole 23 = .ok (.aload_n 0, 1) := by decide +kernel
theorem dX8_whole_24 : decode cX8_whole 24 = .ok (.bipush (-33), 2) := by decide +kernel
theorem dX8_whole_26 : decode cX8_whole 26 = .ok (.invokevirtual 232, 3) := by decide +kernel
theorem dX8_whole_29 : decode cX8_whole 29 = .ok (.aload_n 0, 1) := by decide +kernel
theorem dX8_whole_30 : decode cX8_whole 30 = .ok (.dup, 1) := by decide +kernel
theorem dX8_whole_31 : decode cX8_whole 31 = .ok (.getfield 83, 3) := by decide +kernel
theorem dX8_whole_34 : decode cX8_whole 34 = .ok (.iconst 1, 1) := by decide +kernel
theorem dX8_whole_35 : decode cX8_whole 35 = .ok (.isub, 1) := by decide +kernel
theorem dX8_whole_36 : decode cX8_whole 36 = .ok (.putfield 83, 3) := by decide +kernel
theorem dX8_whole_39 : decode cX8_whole 39 = .ok (.aload_n 0, 1) := by decide +kernel
theorem dX8_whole_40 : decode cX8_whole 40 = .ok (.dup, 1) := by decide +kernel
theorem dX8_whole_41 : decode cX8_whole 41 = .ok (.getfield 86, 3) := by decide +kernel
theorem dX8_whole_44 : decode cX8_whole 44 = .ok (.iconst 1, 1) := by decide +kernel
theorem dX8_whole_45 : decode cX8_whole 45 = .ok (.isub, 1) := by decide +kernel
theorem dX8_whole_46 : decode cX8_whole 46 = .ok (.putfield 86, 3) := by decide +kernel
theorem dX8_whole_49 : decode cX8_whole 49 = .ok (.goto (-49), 3) := by decide +kernel
theorem dX8_whole_52 : decode cX8_whole 52 = .ok (.return_, 1) := by decide +kernel
theorem oM_whole : zok yX8_whole 0 := by decide +kernel
theorem dX8_settle_0 : decode cX8_settle 0 = .ok (.aload_n 0, 1) := by decide +kernel
theorem dX8_settle_1 : decode cX8_settle 1 = .ok (.getfield 83, 3) := by decide +kernel
theorem dX8_settle_4 : decode cX8_settle 4 = .ok (.ifCond .le 68, 3) := by decide +kernel
theorem dX8_settle_7 : decode cX8_settle 7 = .ok (.aload_n 0, 1) := by decide +kernel
theorem dX8_settle_8 : decode cX8_settle 8 = .ok (.getfield 77, 3) := by decide +kernel
theorem dX8_settle_11 : decode cX8_settle 11 = .ok (.aload_n 0, 1) := by decide +kernel
theorem dX8_settle_12 : decode cX8_settle 12 = .ok (.getfield 83, 3) := by decide +kernel
theorem dX8_settle_15 : decode cX8_settle 15 = .ok (.iconst 1, 1) := by decide +kernel
theorem dX8_settle_16 : decode cX8_settle 16 = .ok (.isub, 1) := by decide +kernel
theorem dX8_settle_17 : decode cX8_settle 17 = .ok (.iaload, 1) := by decide +kernel
theorem dX8_settle_18 : decode cX8_settle 18 = .ok (.bipush 38, 2) := by decide +kernel
theorem dX8_settle_20 : decode cX8_settle 20 = .ok (.if_icmp .eq 25, 3) := by decide +kernel
theorem dX8_settle_23 : decode cX8_settle 23 = .ok (.aload_n 0, 1) := by decide +kernel
theorem dX8_settle_24 : decode cX8_settle 24 = .ok (.getfield 77, 3) := by decide +kernel
theorem dX8_settle_27 : decode cX8_settle 27 = .ok (.aload_n 0, 1) := by decide +kernel
theorem dX8_settle_28 : decode cX8_settle 28 = .ok (.getfield 83, 3) := by decide +kernel
theorem dX8_settle_31 : decode cX8_settle 31 = .ok (.iconst 1, 1) := by decide +kernel
theorem dX8_settle_32 : decode cX8_settle 32 = .ok (.isub, 1) := by decide +kernel
theorem dX8_settle_33 : decode cX8_settle 33 = .ok (.iaload, 1) := by decide +kernel
theorem dX8_settle_34 : decode cX8_settle 34 = .ok (.bipush 124, 2) := by decide +kernel
theorem dX8_settle_36 : decode cX8_settle 36 = .ok (.if_icmp .ne 36, 3) := by decide +kernel
theorem dX8_settle_39 : decode cX8_settle 39 = .ok (.iload_n 1, 1) := by decide +kernel
theorem dX8_settle_40 : decode cX8_settle 40 = .ok (.bipush 38, 2) := by decide +kernel
theorem dX8_settle_42 : decode cX8_settle 42 = .ok (.if_icmp .eq 30, 3) := by decide +kernel
theorem dX8_settle_45 : decode cX8_settle 45 = .ok (.aload_n 0, 1) := by decide +kernel
theorem dX8_settle_46 : decode cX8_settle 46 = .ok (.dup, 1) := by decide +kernel
theorem dX8_settle_47 : decode cX8_settle 47 = .ok (.getfield 83, 3) := by decide +kernel
theorem dX8_settle_50 : decode cX8_settle 50 = .ok (.iconst 1, 1) := by decide +kernel
theorem dX8_settle_51 : decode cX8_settle 51 = .ok (.isub, 1) := by decide +kernel
theorem dX8_settle_52 : decode cX8_settle 52 = .ok (.putfield 83, 3) := by decide +kernel
theorem dX8_settle_55 : decode cX8_settle 55 = .ok (.aload_n 0, 1) := by decide +kernel
theorem dX8_settle_56 : decode cX8_settle 56 = .ok (.aload_n 0, 1) := by decide +kernel
theorem dX8_settle_57 : decode cX8_settle 57 = .ok (.getfield 77, 3) := by decide +kernel
theorem dX8_settle_60 : decode cX8_settle 60 = .ok (.aload_n 0, 1) := by decide +kernel
theorem dX8_settle_61 : decode cX8_settle 61 = .ok (.getfield 83, 3) := by decide +kernel
theorem dX8_settle_64 : decode cX8_settle 64 = .ok (.iaload, 1) := by decide +kernel
theorem dX8_settle_65 : decode cX8_settle 65 = .ok (.ineg, 1) := by decide +kernel
theorem dX8_settle_66 : decode cX8_settle 66 = .ok (.invokevirtual 232, 3) := by decide +kernel
theorem dX8_settle_69 : decode cX8_settle 69 = .ok (.goto (-69), 3) := by decide +kernel
theorem dX8_settle_72 : decode cX8_settle 72 = .ok (.return_, 1) := by decide +kernel
theorem oM_settle : zok yX8_settle 1 := by decide +kernel
theorem dX8_told_0 : decode cX8_told 0 = .ok (.iload_n 1, 1) := by decide +kernel
theorem dX8_told_1 : decode cX8_told 1 = .ok (.ifCond .ne 10, 3) := by decide +kernel
theorem dX8_told_4 : decode cX8_told 4 = .ok (.aload_n 0, 1) := by decide +kernel
theorem dX8_told_5 : decode cX8_told 5 = .ok (.getfield 13, 3) := by decide +kernel
theorem dX8_told_8 : decode cX8_told 8 = .ok (.goto 16, 3) := by decide +kernel
theorem dX8_told_11 : decode cX8_told 11 = .ok (.iload_n 1, 1) := by decide +kernel
theorem dX8_told_12 : decode cX8_told 12 = .ok (.iconst 1, 1) := by decide +kernel
theorem dX8_told_13 : decode cX8_told 13 = .ok (.if_icmp .ne 10, 3) := by decide +kernel
theorem dX8_told_16 : decode cX8_told 16 = .ok (.aload_n 0, 1) := by decide +kernel
theorem dX8_told_17 : decode cX8_told 17 = .ok (.invokevirtual 282, 3) := by decide +kernel
theorem dX8_told_20 : decode cX8_told 20 = .ok (.goto 4, 3) := by decide +kernel
theorem dX8_told_23 : decode cX8_told 23 = .ok (.iconst (-1), 1) := by decide +kernel
theorem dX8_told_24 : decode cX8_told 24 = .ok (.ireturn, 1) := by decide +kernel
theorem oM_told : zok yX8_told 1 := by decide +kernel
theorem dX8_handsNow_0 : decode cX8_handsNow 0 = .ok (.bipush 10, 2) := by decide +kernel
theorem dX8_handsNow_2 : decode cX8_handsNow 2 = .ok (.istore_n 1, 1) := by decide +kernel
theorem dX8_handsNow_3 : decode cX8_handsNow 3 = .ok (.aload_n 0, 1) := by decide +kernel
theorem dX8_handsNow_4 : decode cX8_handsNow 4 = .ok (.invokevirtual 268, 3) := by decide +kernel
theorem dX8_handsNow_7 : decode cX8_handsNow 7 = .ok (.istore_n 2, 1) := by decide +kernel
theorem dX8_handsNow_8 : decode cX8_handsNow 8 = .ok (.iload_n 2, 1) := by decide +kernel
theorem dX8_handsNow_9 : decode cX8_handsNow 9 = .ok (.aload_n 0, 1) := by decide +kernel
theorem dX8_handsNow_10 : decode cX8_handsNow 10 = .ok (.invokevirtual 271, 3) := by decide +kernel
theorem dX8_handsNow_13 : decode cX8_handsNow 13 = .ok (.if_icmp .ge 30, 3) := by decide +kernel
theorem dX8_handsNow_16 : decode cX8_handsNow 16 = .ok (.aload_n 0, 1) := by decide +kernel
theorem dX8_handsNow_17 : decode cX8_handsNow 17 = .ok (.getfield 62, 3) := by decide +kernel
theorem dX8_handsNow_20 : decode cX8_handsNow 20 = .ok (.iload_n 2, 1) := by decide +kernel
theorem dX8_handsNow_21 : decode cX8_handsNow 21 = .ok (.iaload, 1) := by decide +kernel
theorem dX8_handsNow_22 : decode cX8_handsNow 22 = .ok (.iconst 2, 1) := by decide +kernel
theorem dX8_handsNow_23 : decode cX8_handsNow 23 = .ok (.if_icmp .ne 12, 3) := by decide +kernel
theorem dX8_handsNow_26 : decode cX8_handsNow 26 = .ok (.aload_n 0, 1) := by decide +kernel
theorem dX8_handsNow_27 : decode cX8_handsNow 27 = .ok (.getfield 65, 3) := by decide +kernel
theorem dX8_handsNow_30 : decode cX8_handsNow 30 = .ok (.iload_n 2, 1) := by decide +kernel
theorem dX8_handsNow_31 : decode cX8_handsNow 31 = .ok (.iaload, 1) := by decide +kernel
theorem dX8_handsNow_32 : decode cX8_handsNow 32 = .ok (.goto 4, 3) := by decide +kernel
theorem dX8_handsNow_35 : decode cX8_handsNow 35 = .ok (.iload_n 1, 1) := by decide +kernel
theorem dX8_handsNow_36 : decode cX8_handsNow 36 = .ok (.istore_n 1, 1) := by decide +kernel
theorem dX8_handsNow_37 : decode cX8_handsNow 37 = .ok (.iinc 2 1, 3) := by decide +kernel
theorem dX8_handsNow_40 : decode cX8_handsNow 40 = .ok (.goto (-32), 3) := by decide +kernel
theorem dX8_handsNow_43 : decode cX8_handsNow 43 = .ok (.iload_n 1, 1) := by decide +kernel
theorem dX8_handsNow_44 : decode cX8_handsNow 44 = .ok (.ireturn, 1) := by decide +kernel
theorem oM_handsNow : zok yX8_handsNow 0 := by decide +kernel
theorem dX8_begin_0 : decode cX8_begin 0 = .ok (.aload_n 0, 1) := by decide +kernel
theorem dX8_begin_1 : decode cX8_begin 1 = .ok (.getfield 44, 3) := by decide +kernel
theorem dX8_begin_4 : decode cX8_begin 4 = .ok (.ifCond .ge 7, 3) := by decide +kernel
theorem dX8_begin_7 : decode cX8_begin 7 = .ok (.iconst 0, 1) := by decide +kernel
theorem dX8_begin_8 : decode cX8_begin 8 = .ok (.goto 10, 3) := by decide +kernel
theorem dX8_begin_11 : decode cX8_begin 11 = .ok (.bipush 10, 2) := by decide +kernel
theorem dX8_begin_13 : decode cX8_begin 13 = .ok (.aload_n 0, 1) := by decide +kernel
theorem dX8_begin_14 : decode cX8_begin 14 = .ok (.getfield 44, 3) := by decide +kernel
theorem dX8_begin_17 : decode cX8_begin 17 = .ok (.imul, 1) := by decide +kernel
theorem dX8_begin_18 : decode cX8_begin 18 = .ok (.ireturn, 1) := by decide +kernel
theorem oM_begin : zok yX8_begin 0 := by decide +kernel
theorem dX8_behind_0 : decode cX8_behind 0 = .ok (.aload_n 0, 1) := by decide +kernel
theorem dX8_behind_1 : decode cX8_behind 1 = .ok (.getfield 44, 3) := by decide +kernel
theorem dX8_behind_4 : decode cX8_behind 4 = .ok (.ifCond .ge 7, 3) := by decide +kernel
theorem dX8_behind_7 : decode cX8_behind 7 = .ok (.iconst 0, 1) := by decide +kernel
theorem dX8_behind_8 : decode cX8_behind 8 = .ok (.goto 20, 3) := by decide +kernel
theorem dX8_behind_11 : decode cX8_behind 11 = .ok (.bipush 10, 2) := by decide +kernel
theorem dX8_behind_13 : decode cX8_behind 13 = .ok (.aload_n 0, 1) := by decide +kernel
theorem dX8_behind_14 : decode cX8_behind 14 = .ok (.getfield 44, 3) := by decide +kernel
theorem dX8_behind_17 : decode cX8_behind 17 = .ok (.imul, 1) := by decide +kernel
theorem dX8_behind_18 : decode cX8_behind 18 = .ok (.aload_n 0, 1) := by decide +kernel
theorem dX8_behind_19 : decode cX8_behind 19 = .ok (.getfield 59, 3) := by decide +kernel
theorem dX8_behind_22 : decode cX8_behind 22 = .ok (.aload_n 0, 1) := by decide +kernel
theorem dX8_behind_23 : decode cX8_behind 23 = .ok (.getfield 44, 3) := by decide +kernel
theorem dX8_behind_26 : decode cX8_behind 26 = .ok (.iaload, 1) := by decide +kernel
theorem dX8_behind_27 : decode cX8_behind 27 = .ok (.iadd, 1) := by decide +kernel
theorem dX8_behind_28 : decode cX8_behind 28 = .ok (.ireturn, 1) := by decide +kernel
theorem oM_behind : zok yX8_behind 0 := by decide +kernel
theorem dX8_doubt_0 : decode cX8_doubt 0 = .ok (.aload_n 0, 1) := by decide +kernel
theorem dX8_doubt_1 : decode cX8_doubt 1 = .ok (.iload_n 1, 1) := by decide +kernel
theorem dX8_doubt_2 : decode cX8_doubt 2 = .ok (.invokevirtual 213, 3) := by decide +kernel
theorem dX8_doubt_5 : decode cX8_doubt 5 = .ok (.ifCond .eq 21, 3) := by decide +kernel
theorem dX8_doubt_8 : decode cX8_doubt 8 = .ok (.aload_n 0, 1) := by decide +kernel
theorem dX8_doubt_9 : decode cX8_doubt 9 = .ok (.iload_n 2, 1) := by decide +kernel
theorem dX8_doubt_10 : decode cX8_doubt 10 = .ok (.invokevirtual 213, 3) := by decide +kernel
theorem dX8_doubt_13 : decode cX8_doubt 13 = .ok (.ifCond .eq 13, 3) := by decide +kernel
theorem dX8_doubt_16 : decode cX8_doubt 16 = .ok (.aload_n 0, 1) := by decide +kernel
theorem dX8_doubt_17 : decode cX8_doubt 17 = .ok (.iload_n 3, 1) := by decide +kernel
theorem dX8_doubt_18 : decode cX8_doubt 18 = .ok (.iconst 0, 1) := by decide +kernel
theorem dX8_doubt_19 : decode cX8_doubt 19 = .ok (.iconst 2, 1) := by decide +kernel
theorem dX8_doubt_20 : decode cX8_doubt 20 = .ok (.invokevirtual 209, 3) := by decide +kernel
theorem dX8_doubt_23 : decode cX8_doubt 23 = .ok (.ifCond .ne 7, 3) := by decide +kernel
theorem dX8_doubt_26 : decode cX8_doubt 26 = .ok (.sipush (-1001), 3) := by decide +kernel
theorem dX8_doubt_29 : decode cX8_doubt 29 = .ok (.ireturn, 1) := by decide +kernel
theorem dX8_doubt_30 : decode cX8_doubt 30 = .ok (.iload_n 1, 1) := by decide +kernel
theorem dX8_doubt_31 : decode cX8_doubt 31 = .ok (.iload_n 2, 1) := by decide +kernel
theorem dX8_doubt_32 : decode cX8_doubt 32 = .ok (.if_icmp .ne 9, 3) := by decide +kernel
theorem dX8_doubt_35 : decode cX8_doubt 35 = .ok (.sipush (-1002), 3) := by decide +kernel
theorem dX8_doubt_38 : decode cX8_doubt 38 = .ok (.goto 10, 3) := by decide +kernel
theorem dX8_doubt_41 : decode cX8_doubt 41 = .ok (.aload_n 0, 1) := by decide +kernel
theorem dX8_doubt_42 : decode cX8_doubt 42 = .ok (.iload_n 1, 1) := by decide +kernel
theorem dX8_doubt_43 : decode cX8_doubt 43 = .ok (.iload_n 2, 1) := by decide +kernel
theorem dX8_doubt_44 : decode cX8_doubt 44 = .ok (.iload_n 3, 1) := by decide +kernel
theorem dX8_doubt_45 : decode cX8_doubt 45 = .ok (.invokevirtual 285, 3) := by decide +kernel
theorem dX8_doubt_48 : decode cX8_doubt 48 = .ok (.ireturn, 1) := by decide +kernel
theorem oM_doubt : zok yX8_doubt 3 := by decide +kernel
theorem dX8_doubtOf_0 : decode cX8_doubtOf 0 = .ok (.bipush 99, 2) := by decide +kernel
theorem dX8_doubtOf_2 : decode cX8_doubtOf 2 = .ok (.aload_n 0, 1) := by decide +kernel
theorem dX8_doubtOf_3 : decode cX8_doubtOf 3 = .ok (.getfield 29, 3) := by decide +kernel
theorem dX8_doubtOf_6 : decode cX8_doubtOf 6 = .ok (.iconst 3, 1) := by decide +kernel
theorem dX8_doubtOf_7 : decode cX8_doubtOf 7 = .ok (.iload_n 2, 1) := by decide +kernel
theorem dX8_doubtOf_8 : decode cX8_doubtOf 8 = .ok (.imul, 1) := by decide +kernel
theorem dX8_doubtOf_9 : decode cX8_doubtOf 9 = .ok (.aload_n 0, 1) := by decide +kernel
theorem dX8_doubtOf_10 : decode cX8_doubtOf 10 = .ok (.getfield 35, 3) := by decide +kernel
theorem dX8_doubtOf_13 : decode cX8_doubtOf 13 = .ok (.iconst 3, 1) := by decide +kernel
theorem dX8_doubtOf_14 : decode cX8_doubtOf 14 = .ok (.iload_n 2, 1) := by decide +kernel
theorem dX8_doubtOf_15 : decode cX8_doubtOf 15 = .ok (.imul, 1) := by decide +kernel
theorem dX8_doubtOf_16 : decode cX8_doubtOf 16 = .ok (.iload_n 3, 1) := by decide +kernel
theorem dX8_doubtOf_17 : decode cX8_doubtOf 17 = .ok (.iadd, 1) := by decide +kernel
theorem dX8_doubtOf_18 : decode cX8_doubtOf 18 = .ok (.iaload, 1) := by decide +kernel
theorem dX8_doubtOf_19 : decode cX8_doubtOf 19 = .ok (.iadd, 1) := by decide +kernel
theorem dX8_doubtOf_20 : decode cX8_doubtOf 20 = .ok (.iaload, 1) := by decide +kernel
theorem dX8_doubtOf_21 : decode cX8_doubtOf 21 = .ok (.isub, 1) := by decide +kernel
theorem dX8_doubtOf_22 : decode cX8_doubtOf 22 = .ok (.istore 4, 2) := by decide +kernel
theorem dX8_doubtOf_24 : decode cX8_doubtOf 24 = .ok (.aload_n 0, 1) := by decide +kernel
theorem dX8_doubtOf_25 : decode cX8_doubtOf 25 = .ok (.invokevirtual 268, 3) := by decide +kernel
theorem dX8_doubtOf_28 : decode cX8_doubtOf 28 = .ok (.istore 5, 2) := by decide +kernel
theorem dX8_doubtOf_30 : decode cX8_doubtOf 30 = .ok (.iload 5, 2) := by decide +kernel
theorem dX8_doubtOf_32 : decode cX8_doubtOf 32 = .ok (.aload_n 0, 1) := by decide +kernel
theorem dX8_doubtOf_33 : decode cX8_doubtOf 33 = .ok (.invokevirtual 271, 3) := by decide +kernel
theorem dX8_doubtOf_36 : decode cX8_doubtOf 36 = .ok (.if_icmp .ge 68, 3) := by decide +kernel
theorem dX8_doubtOf_39 : decode cX8_doubtOf 39 = .ok (.aload_n 0, 1) := by decide +kernel
theorem dX8_doubtOf_40 : decode cX8_doubtOf 40 = .ok (.getfield 62, 3) := by decide +kernel
theorem dX8_doubtOf_43 : decode cX8_doubtOf 43 = .ok (.iload 5, 2) := by decide +kernel
theorem dX8_doubtOf_45 : decode cX8_doubtOf 45 = .ok (.iaload, 1) := by decide +kernel
theorem dX8_doubtOf_46 : decode cX8_doubtOf 46 = .ok (.iconst 2, 1) := by decide +kernel
theorem dX8_doubtOf_47 : decode cX8_doubtOf 47 = .ok (.if_icmp .eq 51, 3) := by decide +kernel
theorem dX8_doubtOf_50 : decode cX8_doubtOf 50 = .ok (.aload_n 0, 1) := by decide +kernel
theorem dX8_doubtOf_51 : decode cX8_doubtOf 51 = .ok (.iload 5, 2) := by decide +kernel
theorem dX8_doubtOf_53 : decode cX8_doubtOf 53 = .ok (.iload_n 1, 1) := by decide +kernel
theorem dX8_doubtOf_54 : decode cX8_doubtOf 54 = .ok (.iload_n 2, 1) := by decide +kernel
theorem dX8_doubtOf_55 : decode cX8_doubtOf 55 = .ok (.iload_n 3, 1) := by decide +kernel
theorem dX8_doubtOf_56 : decode cX8_doubtOf 56 = .ok (.invokevirtual 278, 3) := by decide +kernel
theorem dX8_doubtOf_59 : decode cX8_doubtOf 59 = .ok (.ifCond .ne 6, 3) := by decide +kernel
theorem dX8_doubtOf_62 : decode cX8_doubtOf 62 = .ok (.goto 36, 3) := by decide +kernel
theorem dX8_doubtOf_65 : decode cX8_doubtOf 65 = .ok (.iload 4, 2) := by decide +kernel
theorem dX8_doubtOf_67 : decode cX8_doubtOf 67 = .ok (.aload_n 0, 1) := by decide +kernel
theorem dX8_doubtOf_68 : decode cX8_doubtOf 68 = .ok (.getfield 62, 3) := by decide +kernel
theorem dX8_doubtOf_71 : decode cX8_doubtOf 71 = .ok (.iload 5, 2) := by decide +kernel
theorem dX8_doubtOf_73 : decode cX8_doubtOf 73 = .ok (.iaload, 1) := by decide +kernel
theorem dX8_doubtOf_74 : decode cX8_doubtOf 74 = .ok (.ifCond .ne 13, 3) := by decide +kernel
theorem dX8_doubtOf_77 : decode cX8_doubtOf 77 = .ok (.aload_n 0, 1) := by decide +kernel
theorem dX8_doubtOf_78 : decode cX8_doubtOf 78 = .ok (.getfield 65, 3) := by decide +kernel
theorem dX8_doubtOf_81 : decode cX8_doubtOf 81 = .ok (.iload 5, 2) := by decide +kernel
theorem dX8_doubtOf_83 : decode cX8_doubtOf 83 = .ok (.iaload, 1) := by decide +kernel
theorem dX8_doubtOf_84 : decode cX8_doubtOf 84 = .ok (.goto 11, 3) := by decide +kernel
theorem dX8_doubtOf_87 : decode cX8_doubtOf 87 = .ok (.aload_n 0, 1) := by decide +kernel
theorem dX8_doubtOf_88 : decode cX8_doubtOf 88 = .ok (.getfield 65, 3) := by decide +kernel
theorem dX8_doubtOf_91 : decode cX8_doubtOf 91 = .ok (.iload 5, 2) := by decide +kernel
theorem dX8_doubtOf_93 : decode cX8_doubtOf 93 = .ok (.iaload, 1) := by decide +kernel
theorem dX8_doubtOf_94 : decode cX8_doubtOf 94 = .ok (.ineg, 1) := by decide +kernel
theorem dX8_doubtOf_95 : decode cX8_doubtOf 95 = .ok (.iadd, 1) := by decide +kernel
theorem dX8_doubtOf_96 : decode cX8_doubtOf 96 = .ok (.istore 4, 2) := by decide +kernel
theorem dX8_doubtOf_98 : decode cX8_doubtOf 98 = .ok (.iinc 5 1, 3) := by decide +kernel
theorem dX8_doubtOf_101 : decode cX8_doubtOf 101 = .ok (.goto (-71), 3) := by decide +kernel
theorem dX8_doubtOf_104 : decode cX8_doubtOf 104 = .ok (.iload 4, 2) := by decide +kernel
theorem dX8_doubtOf_106 : decode cX8_doubtOf 106 = .ok (.ireturn, 1) := by decide +kernel
theorem oM_doubtOf : zok yX8_doubtOf 3 := by decide +kernel
theorem dX8_holds_0 : decode cX8_holds 0 = .ok (.iconst 0, 1) := by decide +kernel
theorem dX8_holds_1 : decode cX8_holds 1 = .ok (.istore 5, 2) := by decide +kernel
theorem dX8_holds_3 : decode cX8_holds 3 = .ok (.aload_n 0, 1) := by decide +kernel
theorem dX8_holds_4 : decode cX8_holds 4 = .ok (.getfield 68, 3) := by decide +kernel
theorem dX8_holds_7 : decode cX8_holds 7 = .ok (.iload_n 1, 1) := by decide +kernel
theorem dX8_holds_8 : decode cX8_holds 8 = .ok (.iaload, 1) := by decide +kernel
theorem dX8_holds_9 : decode cX8_holds 9 = .ok (.istore 6, 2) := by decide +kernel
theorem dX8_holds_11 : decode cX8_holds 11 = .ok (.iload 6, 2) := by decide +kernel
theorem dX8_holds_13 : decode cX8_holds 13 = .ok (.aload_n 0, 1) := by decide +kernel
theorem dX8_holds_14 : decode cX8_holds 14 = .ok (.getfield 71, 3) := by decide +kernel
theorem dX8_holds_17 : decode cX8_holds 17 = .ok (.iload_n 1, 1) := by decide +kernel
theorem dX8_holds_18 : decode cX8_holds 18 = .ok (.iaload, 1) := by decide +kernel
theorem dX8_holds_19 : decode cX8_holds 19 = .ok (.if_icmp .ge 236, 3) := by decide +kernel
theorem dX8_holds_22 : decode cX8_holds 22 = .ok (.aload_n 0, 1) := by decide +kernel
theorem dX8_holds_23 : decode cX8_holds 23 = .ok (.getfield 74, 3) := by decide +kernel
theorem dX8_holds_26 : decode cX8_holds 26 = .ok (.iload 6, 2) := by decide +kernel
theorem dX8_holds_28 : decode cX8_holds 28 = .ok (.iaload, 1) := by decide +kernel
theorem dX8_holds_29 : decode cX8_holds 29 = .ok (.istore 7, 2) := by decide +kernel
theorem dX8_holds_31 : decode cX8_holds 31 = .ok (.iload 7, 2) := by decide +kernel
theorem dX8_holds_33 : decode cX8_holds 33 = .ok (.bipush (-33), 2) := by decide +kernel
theorem dX8_holds_35 : decode cX8_holds 35 = .ok (.if_icmp .ne 32, 3) := by decide +kernel
theorem dX8_holds_38 : decode cX8_holds 38 = .ok (.aload_n 0, 1) := by decide +kernel
theorem dX8_holds_39 : decode cX8_holds 39 = .ok (.getfield 92, 3) := by decide +kernel
theorem dX8_holds_42 : decode cX8_holds 42 = .ok (.iload 5, 2) := by decide +kernel
theorem dX8_holds_44 : decode cX8_holds 44 = .ok (.iconst 1, 1) := by decide +kernel
theorem dX8_holds_45 : decode cX8_holds 45 = .ok (.isub, 1) := by decide +kernel
theorem dX8_holds_46 : decode cX8_holds 46 = .ok (.aload_n 0, 1) := by decide +kernel
theorem dX8_holds_47 : decode cX8_holds 47 = .ok (.getfield 92, 3) := by decide +kernel
theorem dX8_holds_50 : decode cX8_holds 50 = .ok (.iload 5, 2) := by decide +kernel
theorem dX8_holds_52 : decode cX8_holds 52 = .ok (.iconst 1, 1) := by decide +kernel
theorem dX8_holds_53 : decode cX8_holds 53 = .ok (.isub, 1) := by decide +kernel
theorem dX8_holds_54 : decode cX8_holds 54 = .ok (.baload, 1) := by decide +kernel
theorem dX8_holds_55 : decode cX8_holds 55 = .ok (.ifCond .ne 7, 3) := by decide +kernel
theorem dX8_holds_58 : decode cX8_holds 58 = .ok (.iconst 1, 1) := by decide +kernel
theorem dX8_holds_59 : decode cX8_holds 59 = .ok (.goto 4, 3) := by decide +kernel
theorem dX8_holds_62 : decode cX8_holds 62 = .ok (.iconst 0, 1) := by decide +kernel
theorem dX8_holds_63 : decode cX8_holds 63 = .ok (.bastore, 1) := by decide +kernel
theorem dX8_holds_64 : decode cX8_holds 64 = .ok (.goto 185, 3) := by decide +kernel
theorem dX8_holds_67 : decode cX8_holds 67 = .ok (.iload 7, 2) := by decide +kernel
theorem dX8_holds_69 : decode cX8_holds 69 = .ok (.ifCond .ge 82, 3) := by decide +kernel
theorem dX8_holds_72 : decode cX8_holds 72 = .ok (.iinc 5 (-1), 3) := by decide +kernel
theorem dX8_holds_75 : decode cX8_holds 75 = .ok (.aload_n 0, 1) := by decide +kernel
theorem dX8_holds_76 : decode cX8_holds 76 = .ok (.getfield 92, 3) := by decide +kernel
theorem dX8_holds_79 : decode cX8_holds 79 = .ok (.iload 5, 2) := by decide +kernel
theorem dX8_holds_81 : decode cX8_holds 81 = .ok (.iconst 1, 1) := by decide +kernel
theorem dX8_holds_82 : decode cX8_holds 82 = .ok (.isub, 1) := by decide +kernel
theorem dX8_holds_83 : decode cX8_holds 83 = .ok (.iload 7, 2) := by decide +kernel
theorem dX8_holds_85 : decode cX8_holds 85 = .ok (.bipush (-38), 2) := by decide +kernel
theorem dX8_holds_87 : decode cX8_holds 87 = .ok (.if_icmp .ne 33, 3) := by decide +kernel
theorem dX8_holds_90 : decode cX8_holds 90 = .ok (.aload_n 0, 1) := by decide +kernel
theorem dX8_holds_91 : decode cX8_holds 91 = .ok (.getfield 92, 3) := by decide +kernel
theorem dX8_holds_94 : decode cX8_holds 94 = .ok (.iload 5, 2) := by decide +kernel
theorem dX8_holds_96 : decode cX8_holds 96 = .ok (.iconst 1, 1) := by decide +kernel
theorem dX8_holds_97 : decode cX8_holds 97 = .ok (.isub, 1) := by decide +kernel
theorem dX8_holds_98 : decode cX8_holds 98 = .ok (.baload, 1) := by decide +kernel
theorem dX8_holds_99 : decode cX8_holds 99 = .ok (.ifCond .eq 17, 3) := by decide +kernel
theorem dX8_holds_102 : decode cX8_holds 102 = .ok (.aload_n 0, 1) := by decide +kernel
theorem dX8_holds_103 : decode cX8_holds 103 = .ok (.getfield 92, 3) := by decide +kernel
theorem dX8_holds_106 : decode cX8_holds 106 = .ok (.iload 5, 2) := by decide +kernel
theorem dX8_holds_108 : decode cX8_holds 108 = .ok (.baload, 1) := by decide +kernel
theorem dX8_holds_109 : decode cX8_holds 109 = .ok (.ifCond .eq 7, 3) := by decide +kernel
theorem dX8_holds_112 : decode cX8_holds 112 = .ok (.iconst 1, 1) := by decide +kernel
theorem dX8_holds_113 : decode cX8_holds 113 = .ok (.goto 34, 3) := by decide +kernel
theorem dX8_holds_116 : decode cX8_holds 116 = .ok (.iconst 0, 1) := by decide +kernel
theorem dX8_holds_117 : decode cX8_holds 117 = .ok (.goto 30, 3) := by decide +kernel
theorem dX8_holds_120 : decode cX8_holds 120 = .ok (.aload_n 0, 1) := by decide +kernel
theorem dX8_holds_121 : decode cX8_holds 121 = .ok (.getfield 92, 3) := by decide +kernel
theorem dX8_holds_124 : decode cX8_holds 124 = .ok (.iload 5, 2) := by decide +kernel
theorem dX8_holds_126 : decode cX8_holds 126 = .ok (.iconst 1, 1) := by decide +kernel
theorem dX8_holds_127 : decode cX8_holds 127 = .ok (.isub, 1) := by decide +kernel
theorem dX8_holds_128 : decode cX8_holds 128 = .ok (.baload, 1) := by decide +kernel
theorem dX8_holds_129 : decode cX8_holds 129 = .ok (.ifCond .ne 13, 3) := by decide +kernel
theorem dX8_holds_132 : decode cX8_holds 132 = .ok (.aload_n 0, 1) := by decide +kernel
theorem dX8_holds_133 : decode cX8_holds 133 = .ok (.getfield 92, 3) := by decide +kernel
theorem dX8_holds_136 : decode cX8_holds 136 = .ok (.iload 5, 2) := by decide +kernel
theorem dX8_holds_138 : decode cX8_holds 138 = .ok (.baload, 1) := by decide +kernel
theorem dX8_holds_139 : decode cX8_holds 139 = .ok (.ifCond .eq 7, 3) := by decide +kernel
theorem dX8_holds_142 : decode cX8_holds 142 = .ok (.iconst 1, 1) := by decide +kernel
theorem dX8_holds_143 : decode cX8_holds 143 = .ok (.goto 4, 3) := by decide +kernel
theorem dX8_holds_146 : decode cX8_holds 146 = .ok (.iconst 0, 1) := by decide +kernel
theorem dX8_holds_147 : decode cX8_holds 147 = .ok (.bastore, 1) := by decide +kernel
theorem dX8_holds_148 : decode cX8_holds 148 = .ok (.goto 101, 3) := by decide +kernel
theorem dX8_holds_151 : decode cX8_holds 151 = .ok (.aload_n 0, 1) := by decide +kernel
theorem dX8_holds_152 : decode cX8_holds 152 = .ok (.iload 7, 2) := by decide +kernel
theorem dX8_holds_154 : decode cX8_holds 154 = .ok (.sipush 1000, 3) := by decide +kernel
theorem dX8_holds_157 : decode cX8_holds 157 = .ok (.idiv, 1) := by decide +kernel
theorem dX8_holds_158 : decode cX8_holds 158 = .ok (.iload_n 2, 1) := by decide +kernel
theorem dX8_holds_159 : decode cX8_holds 159 = .ok (.iload_n 3, 1) := by decide +kernel
theorem dX8_holds_160 : decode cX8_holds 160 = .ok (.iload 4, 2) := by decide +kernel
theorem dX8_holds_162 : decode cX8_holds 162 = .ok (.invokevirtual 274, 3) := by decide +kernel
theorem dX8_holds_165 : decode cX8_holds 165 = .ok (.istore 8, 2) := by decide +kernel
theorem dX8_holds_167 : decode cX8_holds 167 = .ok (.iload 7, 2) := by decide +kernel
theorem dX8_holds_169 : decode cX8_holds 169 = .ok (.bipush 100, 2) := by decide +kernel
theorem dX8_holds_171 : decode cX8_holds 171 = .ok (.idiv, 1) := by decide +kernel
theorem dX8_holds_172 : decode cX8_holds 172 = .ok (.bipush 10, 2) := by decide +kernel
theorem dX8_holds_174 : decode cX8_holds 174 = .ok (.irem, 1) := by decide +kernel
theorem dX8_holds_175 : decode cX8_holds 175 = .ok (.istore 9, 2) := by decide +kernel
theorem dX8_holds_177 : decode cX8_holds 177 = .ok (.aload_n 0, 1) := by decide +kernel
theorem dX8_holds_178 : decode cX8_holds 178 = .ok (.getfield 92, 3) := by decide +kernel
theorem dX8_holds_181 : decode cX8_holds 181 = .ok (.iload 5, 2) := by decide +kernel
theorem dX8_holds_183 : decode cX8_holds 183 = .ok (.iload 9, 2) := by decide +kernel
theorem dX8_holds_185 : decode cX8_holds 185 = .ok (.ifCond .ne 21, 3) := by decide +kernel
theorem dX8_holds_188 : decode cX8_holds 188 = .ok (.iload 8, 2) := by decide +kernel
theorem dX8_holds_190 : decode cX8_holds 190 = .ok (.iload 7, 2) := by decide +kernel
theorem dX8_holds_192 : decode cX8_holds 192 = .ok (.bipush 100, 2) := by decide +kernel
theorem dX8_holds_194 : decode cX8_holds 194 = .ok (.irem, 1) := by decide +kernel
theorem dX8_holds_195 : decode cX8_holds 195 = .ok (.if_icmp .ge 7, 3) := by decide +kernel
theorem dX8_holds_198 : decode cX8_holds 198 = .ok (.iconst 1, 1) := by decide +kernel
theorem dX8_holds_199 : decode cX8_holds 199 = .ok (.goto 46, 3) := by decide +kernel
theorem dX8_holds_202 : decode cX8_holds 202 = .ok (.iconst 0, 1) := by decide +kernel
theorem dX8_holds_203 : decode cX8_holds 203 = .ok (.goto 42, 3) := by decide +kernel
theorem dX8_holds_206 : decode cX8_holds 206 = .ok (.iload 9, 2) := by decide +kernel
theorem dX8_holds_208 : decode cX8_holds 208 = .ok (.iconst 1, 1) := by decide +kernel
theorem dX8_holds_209 : decode cX8_holds 209 = .ok (.if_icmp .ne 21, 3) := by decide +kernel
theorem dX8_holds_212 : decode cX8_holds 212 = .ok (.iload 8, 2) := by decide +kernel
theorem dX8_holds_214 : decode cX8_holds 214 = .ok (.iload 7, 2) := by decide +kernel
theorem dX8_holds_216 : decode cX8_holds 216 = .ok (.bipush 100, 2) := by decide +kernel
theorem dX8_holds_218 : decode cX8_holds 218 = .ok (.irem, 1) := by decide +kernel
theorem dX8_holds_219 : decode cX8_holds 219 = .ok (.if_icmp .ne 7, 3) := by decide +kernel
theorem dX8_holds_222 : decode cX8_holds 222 = .ok (.iconst 1, 1) := by decide +kernel
theorem dX8_holds_223 : decode cX8_holds 223 = .ok (.goto 22, 3) := by decide +kernel
theorem dX8_holds_226 : decode cX8_holds 226 = .ok (.iconst 0, 1) := by decide +kernel
theorem dX8_holds_227 : decode cX8_holds 227 = .ok (.goto 18, 3) := by decide +kernel
theorem dX8_holds_230 : decode cX8_holds 230 = .ok (.iload 8, 2) := by decide +kernel
theorem dX8_holds_232 : decode cX8_holds 232 = .ok (.iload 7, 2) := by decide +kernel
theorem dX8_holds_234 : decode cX8_holds 234 = .ok (.bipush 100, 2) := by decide +kernel
theorem dX8_holds_236 : decode cX8_holds 236 = .ok (.irem, 1) := by decide +kernel
theorem dX8_holds_237 : decode cX8_holds 237 = .ok (.if_icmp .le 7, 3) := by decide +kernel
theorem dX8_holds_240 : decode cX8_holds 240 = .ok (.iconst 1, 1) := by decide +kernel
theorem dX8_holds_241 : decode cX8_holds 241 = .ok (.goto 4, 3) := by decide +kernel
theorem dX8_holds_244 : decode cX8_holds 244 = .ok (.iconst 0, 1) := by decide +kernel
theorem dX8_holds_245 : decode cX8_holds 245 = .ok (.bastore, 1) := by decide +kernel
theorem dX8_holds_246 : decode cX8_holds 246 = .ok (.iinc 5 1, 3) := by decide +kernel
theorem dX8_holds_249 : decode cX8_holds 249 = .ok (.iinc 6 1, 3) := by decide +kernel
theorem dX8_holds_252 : decode cX8_holds 252 = .ok (.goto (-241), 3) := by decide +kernel
theorem dX8_holds_255 : decode cX8_holds 255 = .ok (.aload_n 0, 1) := by decide +kernel
theorem dX8_holds_256 : decode cX8_holds 256 = .ok (.getfield 92, 3) := by decide +kernel
theorem dX8_holds_259 : decode cX8_holds 259 = .ok (.iconst 0, 1) := by decide +kernel
theorem dX8_holds_260 : decode cX8_holds 260 = .ok (.baload, 1) := by decide +kernel
theorem dX8_holds_261 : decode cX8_holds 261 = .ok (.ireturn, 1) := by decide +kernel
theorem oM_holds : zok yX8_holds 4 := by decide +kernel
theorem dX8_factOf_0 : decode cX8_factOf 0 = .ok (.iconst 3, 1) := by decide +kernel
theorem dX8_factOf_1 : decode cX8_factOf 1 = .ok (.iload_n 3, 1) := by decide +kernel
theorem dX8_factOf_2 : decode cX8_factOf 2 = .ok (.imul, 1) := by decide +kernel
theorem dX8_factOf_3 : decode cX8_factOf 3 = .ok (.aload_n 0, 1) := by decide +kernel
theorem dX8_factOf_4 : decode cX8_factOf 4 = .ok (.getfield 35, 3) := by decide +kernel
theorem dX8_factOf_7 : decode cX8_factOf 7 = .ok (.iconst 3, 1) := by decide +kernel
theorem dX8_factOf_8 : decode cX8_factOf 8 = .ok (.iload_n 3, 1) := by decide +kernel
theorem dX8_factOf_9 : decode cX8_factOf 9 = .ok (.imul, 1) := by decide +kernel
theorem dX8_factOf_10 : decode cX8_factOf 10 = .ok (.iload 4, 2) := by decide +kernel
theorem dX8_factOf_12 : decode cX8_factOf 12 = .ok (.iadd, 1) := by decide +kernel
theorem dX8_factOf_13 : decode cX8_factOf 13 = .ok (.iaload, 1) := by decide +kernel
theorem dX8_factOf_14 : decode cX8_factOf 14 = .ok (.iadd, 1) := by decide +kernel
theorem dX8_factOf_15 : decode cX8_factOf 15 = .ok (.istore 5, 2) := by decide +kernel
theorem dX8_factOf_17 : decode cX8_factOf 17 = .ok (.iload_n 1, 1) := by decide +kernel
theorem dX8_factOf_18 : decode cX8_factOf 18 = .ok (.tableswitch 59 0 4 #[34, 36, 43, 45, 48], 34) := by decide +kernel
theorem dX8_factOf_52 : decode cX8_factOf 52 = .ok (.iload_n 2, 1) := by decide +kernel
theorem dX8_factOf_53 : decode cX8_factOf 53 = .ok (.ireturn, 1) := by decide +kernel
theorem dX8_factOf_54 : decode cX8_factOf 54 = .ok (.aload_n 0, 1) := by decide +kernel
theorem dX8_factOf_55 : decode cX8_factOf 55 = .ok (.getfield 16, 3) := by decide +kernel
theorem dX8_factOf_58 : decode cX8_factOf 58 = .ok (.iload_n 2, 1) := by decide +kernel
theorem dX8_factOf_59 : decode cX8_factOf 59 = .ok (.iaload, 1) := by decide +kernel
theorem dX8_factOf_60 : decode cX8_factOf 60 = .ok (.ireturn, 1) := by decide +kernel
theorem dX8_factOf_61 : decode cX8_factOf 61 = .ok (.iload_n 3, 1) := by decide +kernel
theorem dX8_factOf_62 : decode cX8_factOf 62 = .ok (.ireturn, 1) := by decide +kernel
theorem dX8_factOf_63 : decode cX8_factOf 63 = .ok (.iload 4, 2) := by decide +kernel
theorem dX8_factOf_65 : decode cX8_factOf 65 = .ok (.ireturn, 1) := by decide +kernel
theorem dX8_factOf_66 : decode cX8_factOf 66 = .ok (.aload_n 0, 1) := by decide +kernel
theorem dX8_factOf_67 : decode cX8_factOf 67 = .ok (.getfield 29, 3) := by decide +kernel
theorem dX8_factOf_70 : decode cX8_factOf 70 = .ok (.iload 5, 2) := by decide +kernel
theorem dX8_factOf_72 : decode cX8_factOf 72 = .ok (.iaload, 1) := by decide +kernel
theorem dX8_factOf_73 : decode cX8_factOf 73 = .ok (.bipush 10, 2) := by decide +kernel
theorem dX8_factOf_75 : decode cX8_factOf 75 = .ok (.idiv, 1) := by decide +kernel
theorem dX8_factOf_76 : decode cX8_factOf 76 = .ok (.ireturn, 1) := by decide +kernel
theorem dX8_factOf_77 : decode cX8_factOf 77 = .ok (.aload_n 0, 1) := by decide +kernel
theorem dX8_factOf_78 : decode cX8_factOf 78 = .ok (.getfield 32, 3) := by decide +kernel
theorem dX8_factOf_81 : decode cX8_factOf 81 = .ok (.iload 5, 2) := by decide +kernel
theorem dX8_factOf_83 : decode cX8_factOf 83 = .ok (.iaload, 1) := by decide +kernel
theorem dX8_factOf_84 : decode cX8_factOf 84 = .ok (.ireturn, 1) := by decide +kernel
theorem oM_factOf : zok yX8_factOf 4 := by decide +kernel
theorem dX8_round_0 : decode cX8_round 0 = .ok (.aload_n 0, 1) := by decide +kernel
theorem dX8_round_1 : decode cX8_round 1 = .ok (.iload_n 1, 1) := by decide +kernel
theorem dX8_round_2 : decode cX8_round 2 = .ok (.invokevirtual 213, 3) := by decide +kernel
theorem dX8_round_5 : decode cX8_round 5 = .ok (.ifCond .ne 5, 3) := by decide +kernel
theorem dX8_round_8 : decode cX8_round 8 = .ok (.iconst (-1), 1) := by decide +kernel
theorem dX8_round_9 : decode cX8_round 9 = .ok (.ireturn, 1) := by decide +kernel
theorem dX8_round_10 : decode cX8_round 10 = .ok (.aload_n 0, 1) := by decide +kernel
theorem dX8_round_11 : decode cX8_round 11 = .ok (.getfield 13, 3) := by decide +kernel
theorem dX8_round_14 : decode cX8_round 14 = .ok (.sipush 999, 3) := by decide +kernel
theorem dX8_round_17 : decode cX8_round 17 = .ok (.if_icmp .ne 8, 3) := by decide +kernel
theorem dX8_round_20 : decode cX8_round 20 = .ok (.bipush (-3), 2) := by decide +kernel
theorem dX8_round_22 : decode cX8_round 22 = .ok (.goto 8, 3) := by decide +kernel
theorem dX8_round_25 : decode cX8_round 25 = .ok (.aload_n 0, 1) := by decide +kernel
theorem dX8_round_26 : decode cX8_round 26 = .ok (.iload_n 1, 1) := by decide +kernel
theorem dX8_round_27 : decode cX8_round 27 = .ok (.invokevirtual 312, 3) := by decide +kernel
theorem dX8_round_30 : decode cX8_round 30 = .ok (.ireturn, 1) := by decide +kernel
theorem oM_round : zok yX8_round 1 := by decide +kernel
theorem dX8_goRound_0 : decode cX8_goRound 0 = .ok (.aload_n 0, 1) := by decide +kernel
theorem dX8_goRound_1 : decode cX8_goRound 1 = .ok (.iload_n 1, 1) := by decide +kernel
theorem dX8_goRound_2 : decode cX8_goRound 2 = .ok (.invokevirtual 309, 3) := by decide +kernel
theorem dX8_goRound_5 : decode cX8_goRound 5 = .ok (.istore_n 2, 1) := by decide +kernel
theorem dX8_goRound_6 : decode cX8_goRound 6 = .ok (.aload_n 0, 1) := by decide +kernel
theorem dX8_goRound_7 : decode cX8_goRound 7 = .ok (.iload_n 1, 1) := by decide +kernel
theorem dX8_goRound_8 : decode cX8_goRound 8 = .ok (.invokevirtual 289, 3) := by decide +kernel
theorem dX8_goRound_11 : decode cX8_goRound 11 = .ok (.istore_n 3, 1) := by decide +kernel
theorem dX8_goRound_12 : decode cX8_goRound 12 = .ok (.iconst 0, 1) := by decide +kernel
theorem dX8_goRound_13 : decode cX8_goRound 13 = .ok (.istore 4, 2) := by decide +kernel
theorem dX8_goRound_15 : decode cX8_goRound 15 = .ok (.iload 4, 2) := by decide +kernel
theorem dX8_goRound_17 : decode cX8_goRound 17 = .ok (.aload_n 0, 1) := by decide +kernel
theorem dX8_goRound_18 : decode cX8_goRound 18 = .ok (.getfield 7, 3) := by decide +kernel
theorem dX8_goRound_21 : decode cX8_goRound 21 = .ok (.if_icmp .ge 37, 3) := by decide +kernel
theorem dX8_goRound_24 : decode cX8_goRound 24 = .ok (.iload 4, 2) := by decide +kernel
theorem dX8_goRound_26 : decode cX8_goRound 26 = .ok (.iload_n 1, 1) := by decide +kernel
theorem dX8_goRound_27 : decode cX8_goRound 27 = .ok (.if_icmp .eq 25, 3) := by decide +kernel
theorem dX8_goRound_30 : decode cX8_goRound 30 = .ok (.aload_n 0, 1) := by decide +kernel
theorem dX8_goRound_31 : decode cX8_goRound 31 = .ok (.getfield 99, 3) := by decide +kernel
theorem dX8_goRound_34 : decode cX8_goRound 34 = .ok (.iload 4, 2) := by decide +kernel
theorem dX8_goRound_36 : decode cX8_goRound 36 = .ok (.iaload, 1) := by decide +kernel
theorem dX8_goRound_37 : decode cX8_goRound 37 = .ok (.iload_n 3, 1) := by decide +kernel
theorem dX8_goRound_38 : decode cX8_goRound 38 = .ok (.if_icmp .ne 14, 3) := by decide +kernel
theorem dX8_goRound_41 : decode cX8_goRound 41 = .ok (.aload_n 0, 1) := by decide +kernel
theorem dX8_goRound_42 : decode cX8_goRound 42 = .ok (.getfield 23, 3) := by decide +kernel
theorem dX8_goRound_45 : decode cX8_goRound 45 = .ok (.iload 4, 2) := by decide +kernel
theorem dX8_goRound_47 : decode cX8_goRound 47 = .ok (.dup2, 1) := by decide +kernel
theorem dX8_goRound_48 : decode cX8_goRound 48 = .ok (.iaload, 1) := by decide +kernel
theorem dX8_goRound_49 : decode cX8_goRound 49 = .ok (.iconst 1, 1) := by decide +kernel
theorem dX8_goRound_50 : decode cX8_goRound 50 = .ok (.iadd, 1) := by decide +kernel
theorem dX8_goRound_51 : decode cX8_goRound 51 = .ok (.iastore, 1) := by decide +kernel
theorem dX8_goRound_52 : decode cX8_goRound 52 = .ok (.iinc 4 1, 3) := by decide +kernel
theorem dX8_goRound_55 : decode cX8_goRound 55 = .ok (.goto (-40), 3) := by decide +kernel
theorem dX8_goRound_58 : decode cX8_goRound 58 = .ok (.aload_n 0, 1) := by decide +kernel
theorem dX8_goRound_59 : decode cX8_goRound 59 = .ok (.getfield 23, 3) := by decide +kernel
theorem dX8_goRound_62 : decode cX8_goRound 62 = .ok (.iload_n 1, 1) := by decide +kernel
theorem dX8_goRound_63 : decode cX8_goRound 63 = .ok (.dup2, 1) := by decide +kernel
theorem dX8_goRound_64 : decode cX8_goRound 64 = .ok (.iaload, 1) := by decide +kernel
theorem dX8_goRound_65 : decode cX8_goRound 65 = .ok (.iload_n 2, 1) := by decide +kernel
theorem dX8_goRound_66 : decode cX8_goRound 66 = .ok (.iadd, 1) := by decide +kernel
theorem dX8_goRound_67 : decode cX8_goRound 67 = .ok (.iastore, 1) := by decide +kernel
theorem dX8_goRound_68 : decode cX8_goRound 68 = .ok (.aload_n 0, 1) := by decide +kernel
theorem dX8_goRound_69 : decode cX8_goRound 69 = .ok (.dup, 1) := by decide +kernel
theorem dX8_goRound_70 : decode cX8_goRound 70 = .ok (.getfield 13, 3) := by decide +kernel
theorem dX8_goRound_73 : decode cX8_goRound 73 = .ok (.iconst 1, 1) := by decide +kernel
theorem dX8_goRound_74 : decode cX8_goRound 74 = .ok (.iadd, 1) := by decide +kernel
theorem dX8_goRound_75 : decode cX8_goRound 75 = .ok (.putfield 13, 3) := by decide +kernel
theorem dX8_goRound_78 : decode cX8_goRound 78 = .ok (.iload_n 2, 1) := by decide +kernel
theorem dX8_goRound_79 : decode cX8_goRound 79 = .ok (.ireturn, 1) := by decide +kernel
theorem oM_goRound : zok yX8_goRound 1 := by decide +kernel
theorem dX8_goes_0 : decode cX8_goes 0 = .ok (.aload_n 0, 1) := by decide +kernel
theorem dX8_goes_1 : decode cX8_goes 1 = .ok (.invokevirtual 302, 3) := by decide +kernel
theorem dX8_goes_4 : decode cX8_goes 4 = .ok (.iconst 0, 1) := by decide +kernel
theorem dX8_goes_5 : decode cX8_goes 5 = .ok (.istore_n 2, 1) := by decide +kernel
theorem dX8_goes_6 : decode cX8_goes 6 = .ok (.iload_n 2, 1) := by decide +kernel
theorem dX8_goes_7 : decode cX8_goes 7 = .ok (.aload_n 0, 1) := by decide +kernel
theorem dX8_goes_8 : decode cX8_goes 8 = .ok (.getfield 7, 3) := by decide +kernel
theorem dX8_goes_11 : decode cX8_goes 11 = .ok (.if_icmp .ge 20, 3) := by decide +kernel
theorem dX8_goes_14 : decode cX8_goes 14 = .ok (.iload_n 2, 1) := by decide +kernel
theorem dX8_goes_15 : decode cX8_goes 15 = .ok (.iload_n 1, 1) := by decide +kernel
theorem dX8_goes_16 : decode cX8_goes 16 = .ok (.if_icmp .eq 9, 3) := by decide +kernel
theorem dX8_goes_19 : decode cX8_goes 19 = .ok (.aload_n 0, 1) := by decide +kernel
theorem dX8_goes_20 : decode cX8_goes 20 = .ok (.iload_n 2, 1) := by decide +kernel
theorem dX8_goes_21 : decode cX8_goes 21 = .ok (.iload_n 1, 1) := by decide +kernel
theorem dX8_goes_22 : decode cX8_goes 22 = .ok (.invokevirtual 305, 3) := by decide +kernel
theorem dX8_goes_25 : decode cX8_goes 25 = .ok (.iinc 2 1, 3) := by decide +kernel
theorem dX8_goes_28 : decode cX8_goes 28 = .ok (.goto (-22), 3) := by decide +kernel
theorem dX8_goes_31 : decode cX8_goes 31 = .ok (.aload_n 0, 1) := by decide +kernel
theorem dX8_goes_32 : decode cX8_goes 32 = .ok (.getfield 7, 3) := by decide +kernel
theorem dX8_goes_35 : decode cX8_goes 35 = .ok (.iconst 1, 1) := by decide +kernel
theorem dX8_goes_36 : decode cX8_goes 36 = .ok (.isub, 1) := by decide +kernel
theorem dX8_goes_37 : decode cX8_goes 37 = .ok (.aload_n 0, 1) := by decide +kernel
theorem dX8_goes_38 : decode cX8_goes 38 = .ok (.getfield 96, 3) := by decide +kernel
theorem dX8_goes_41 : decode cX8_goes 41 = .ok (.aload_n 0, 1) := by decide +kernel
theorem dX8_goes_42 : decode cX8_goes 42 = .ok (.iload_n 1, 1) := by decide +kernel
theorem dX8_goes_43 : decode cX8_goes 43 = .ok (.invokevirtual 289, 3) := by decide +kernel
theorem dX8_goes_46 : decode cX8_goes 46 = .ok (.iaload, 1) := by decide +kernel
theorem dX8_goes_47 : decode cX8_goes 47 = .ok (.isub, 1) := by decide +kernel
theorem dX8_goes_48 : decode cX8_goes 48 = .ok (.ireturn, 1) := by decide +kernel
theorem oM_goes : zok yX8_goes 1 := by decide +kernel
theorem dX8_clearHands_0 : decode cX8_clearHands 0 = .ok (.iconst 0, 1) := by decide +kernel
theorem dX8_clearHands_1 : decode cX8_clearHands 1 = .ok (.istore_n 1, 1) := by decide +kernel
theorem dX8_clearHands_2 : decode cX8_clearHands 2 = .ok (.iload_n 1, 1) := by decide +kernel
theorem dX8_clearHands_3 : decode cX8_clearHands 3 = .ok (.iconst 3, 1) := by decide +kernel
theorem dX8_clearHands_4 : decode cX8_clearHands 4 = .ok (.if_icmp .ge 16, 3) := by decide +kernel
theorem dX8_clearHands_7 : decode cX8_clearHands 7 = .ok (.aload_n 0, 1) := by decide +kernel
theorem dX8_clearHands_8 : decode cX8_clearHands 8 = .ok (.getfield 96, 3) := by decide +kernel
theorem dX8_clearHands_11 : decode cX8_clearHands 11 = .ok (.iload_n 1, 1) := by decide +kernel
theorem dX8_clearHands_12 : decode cX8_clearHands 12 = .ok (.iconst 0, 1) := by decide +kernel
theorem dX8_clearHands_13 : decode cX8_clearHands 13 = .ok (.iastore, 1) := by decide +kernel
theorem dX8_clearHands_14 : decode cX8_clearHands 14 = .ok (.iinc 1 1, 3) := by decide +kernel
theorem dX8_clearHands_17 : decode cX8_clearHands 17 = .ok (.goto (-15), 3) := by decide +kernel
theorem dX8_clearHands_20 : decode cX8_clearHands 20 = .ok (.return_, 1) := by decide +kernel
theorem oM_clearHands : zok yX8_clearHands 0 := by decide +kernel
theorem dX8_guesses_0 : decode cX8_guesses 0 = .ok (.aload_n 0, 1) := by decide +kernel
theorem dX8_guesses_1 : decode cX8_guesses 1 = .ok (.getfield 99, 3) := by decide +kernel
theorem dX8_guesses_4 : decode cX8_guesses 4 = .ok (.iload_n 1, 1) := by decide +kernel
theorem dX8_guesses_5 : decode cX8_guesses 5 = .ok (.aload_n 0, 1) := by decide +kernel
theorem dX8_guesses_6 : decode cX8_guesses 6 = .ok (.iload_n 1, 1) := by decide +kernel
theorem dX8_guesses_7 : decode cX8_guesses 7 = .ok (.iload_n 2, 1) := by decide +kernel
theorem dX8_guesses_8 : decode cX8_guesses 8 = .ok (.invokevirtual 298, 3) := by decide +kernel
theorem dX8_guesses_11 : decode cX8_guesses 11 = .ok (.iastore, 1) := by decide +kernel
theorem dX8_guesses_12 : decode cX8_guesses 12 = .ok (.aload_n 0, 1) := by decide +kernel
theorem dX8_guesses_13 : decode cX8_guesses 13 = .ok (.getfield 96, 3) := by decide +kernel
theorem dX8_guesses_16 : decode cX8_guesses 16 = .ok (.aload_n 0, 1) := by decide +kernel
theorem dX8_guesses_17 : decode cX8_guesses 17 = .ok (.getfield 99, 3) := by decide +kernel
theorem dX8_guesses_20 : decode cX8_guesses 20 = .ok (.iload_n 1, 1) := by decide +kernel
theorem dX8_guesses_21 : decode cX8_guesses 21 = .ok (.iaload, 1) := by decide +kernel
theorem dX8_guesses_22 : decode cX8_guesses 22 = .ok (.dup2, 1) := by decide +kernel
theorem dX8_guesses_23 : decode cX8_guesses 23 = .ok (.iaload, 1) := by decide +kernel
theorem dX8_guesses_24 : decode cX8_guesses 24 = .ok (.iconst 1, 1) := by decide +kernel
theorem dX8_guesses_25 : decode cX8_guesses 25 = .ok (.iadd, 1) := by decide +kernel
theorem dX8_guesses_26 : decode cX8_guesses 26 = .ok (.iastore, 1) := by decide +kernel
theorem dX8_guesses_27 : decode cX8_guesses 27 = .ok (.return_, 1) := by decide +kernel
theorem oM_guesses : zok yX8_guesses 2 := by decide +kernel
theorem dX8_choice_0 : decode cX8_choice 0 = .ok (.iconst 0, 1) := by decide +kernel
theorem dX8_choice_1 : decode cX8_choice 1 = .ok (.istore_n 3, 1) := by decide +kernel
theorem dX8_choice_2 : decode cX8_choice 2 = .ok (.aload_n 0, 1) := by decide +kernel
theorem dX8_choice_3 : decode cX8_choice 3 = .ok (.iload_n 1, 1) := by decide +kernel
theorem dX8_choice_4 : decode cX8_choice 4 = .ok (.iload_n 2, 1) := by decide +kernel
theorem dX8_choice_5 : decode cX8_choice 5 = .ok (.iconst 0, 1) := by decide +kernel
theorem dX8_choice_6 : decode cX8_choice 6 = .ok (.invokevirtual 295, 3) := by decide +kernel
theorem dX8_choice_9 : decode cX8_choice 9 = .ok (.istore 4, 2) := by decide +kernel
theorem dX8_choice_11 : decode cX8_choice 11 = .ok (.iconst 1, 1) := by decide +kernel
theorem dX8_choice_12 : decode cX8_choice 12 = .ok (.istore 5, 2) := by decide +kernel
theorem dX8_choice_14 : decode cX8_choice 14 = .ok (.iload 5, 2) := by decide +kernel
theorem dX8_choice_16 : decode cX8_choice 16 = .ok (.iconst 3, 1) := by decide +kernel
theorem dX8_choice_17 : decode cX8_choice 17 = .ok (.if_icmp .ge 36, 3) := by decide +kernel
theorem dX8_choice_20 : decode cX8_choice 20 = .ok (.aload_n 0, 1) := by decide +kernel
theorem dX8_choice_21 : decode cX8_choice 21 = .ok (.iload_n 1, 1) := by decide +kernel
theorem dX8_choice_22 : decode cX8_choice 22 = .ok (.iload_n 2, 1) := by decide +kernel
theorem dX8_choice_23 : decode cX8_choice 23 = .ok (.iload 5, 2) := by decide +kernel
theorem dX8_choice_25 : decode cX8_choice 25 = .ok (.invokevirtual 295, 3) := by decide +kernel
theorem dX8_choice_28 : decode cX8_choice 28 = .ok (.istore 6, 2) := by decide +kernel
theorem dX8_choice_30 : decode cX8_choice 30 = .ok (.iload 6, 2) := by decide +kernel
theorem dX8_choice_32 : decode cX8_choice 32 = .ok (.iload 4, 2) := by decide +kernel
theorem dX8_choice_34 : decode cX8_choice 34 = .ok (.if_icmp .gt 6, 3) := by decide +kernel
theorem dX8_choice_37 : decode cX8_choice 37 = .ok (.goto 10, 3) := by decide +kernel
theorem dX8_choice_40 : decode cX8_choice 40 = .ok (.iload 5, 2) := by decide +kernel
theorem dX8_choice_42 : decode cX8_choice 42 = .ok (.istore_n 3, 1) := by decide +kernel
theorem dX8_choice_43 : decode cX8_choice 43 = .ok (.iload 6, 2) := by decide +kernel
theorem dX8_choice_45 : decode cX8_choice 45 = .ok (.istore 4, 2) := by decide +kernel
theorem dX8_choice_47 : decode cX8_choice 47 = .ok (.iinc 5 1, 3) := by decide +kernel
theorem dX8_choice_50 : decode cX8_choice 50 = .ok (.goto (-36), 3) := by decide +kernel
theorem dX8_choice_53 : decode cX8_choice 53 = .ok (.iload_n 3, 1) := by decide +kernel
theorem dX8_choice_54 : decode cX8_choice 54 = .ok (.ireturn, 1) := by decide +kernel
theorem oM_choice : zok yX8_choice 2 := by decide +kernel
theorem dX8_weightOf_0 : decode cX8_weightOf 0 = .ok (.aload_n 0, 1) := by decide +kernel
theorem dX8_weightOf_1 : decode cX8_weightOf 1 = .ok (.iload_n 1, 1) := by decide +kernel
theorem dX8_weightOf_2 : decode cX8_weightOf 2 = .ok (.iload_n 2, 1) := by decide +kernel
theorem dX8_weightOf_3 : decode cX8_weightOf 3 = .ok (.iload_n 3, 1) := by decide +kernel
theorem dX8_weightOf_4 : decode cX8_weightOf 4 = .ok (.invokevirtual 285, 3) := by decide +kernel
theorem dX8_weightOf_7 : decode cX8_weightOf 7 = .ok (.istore 4, 2) := by decide +kernel
theorem dX8_weightOf_9 : decode cX8_weightOf 9 = .ok (.iload_n 1, 1) := by decide +kernel
theorem dX8_weightOf_10 : decode cX8_weightOf 10 = .ok (.aload_n 0, 1) := by decide +kernel
theorem dX8_weightOf_11 : decode cX8_weightOf 11 = .ok (.getfield 102, 3) := by decide +kernel
theorem dX8_weightOf_14 : decode cX8_weightOf 14 = .ok (.if_icmp .ne 6, 3) := by decide +kernel
theorem dX8_weightOf_17 : decode cX8_weightOf 17 = .ok (.iload 4, 2) := by decide +kernel
theorem dX8_weightOf_19 : decode cX8_weightOf 19 = .ok (.ireturn, 1) := by decide +kernel
theorem dX8_weightOf_20 : decode cX8_weightOf 20 = .ok (.iconst 2, 1) := by decide +kernel
theorem dX8_weightOf_21 : decode cX8_weightOf 21 = .ok (.aload_n 0, 1) := by decide +kernel
theorem dX8_weightOf_22 : decode cX8_weightOf 22 = .ok (.getfield 32, 3) := by decide +kernel
theorem dX8_weightOf_25 : decode cX8_weightOf 25 = .ok (.iconst 3, 1) := by decide +kernel
theorem dX8_weightOf_26 : decode cX8_weightOf 26 = .ok (.iload_n 2, 1) := by decide +kernel
theorem dX8_weightOf_27 : decode cX8_weightOf 27 = .ok (.imul, 1) := by decide +kernel
theorem dX8_weightOf_28 : decode cX8_weightOf 28 = .ok (.aload_n 0, 1) := by decide +kernel
theorem dX8_weightOf_29 : decode cX8_weightOf 29 = .ok (.getfield 35, 3) := by decide +kernel
theorem dX8_weightOf_32 : decode cX8_weightOf 32 = .ok (.iconst 3, 1) := by decide +kernel
theorem dX8_weightOf_33 : decode cX8_weightOf 33 = .ok (.iload_n 2, 1) := by decide +kernel
theorem dX8_weightOf_34 : decode cX8_weightOf 34 = .ok (.imul, 1) := by decide +kernel
theorem dX8_weightOf_35 : decode cX8_weightOf 35 = .ok (.iload_n 3, 1) := by decide +kernel
theorem dX8_weightOf_36 : decode cX8_weightOf 36 = .ok (.iadd, 1) := by decide +kernel
theorem dX8_weightOf_37 : decode cX8_weightOf 37 = .ok (.iaload, 1) := by decide +kernel
theorem dX8_weightOf_38 : decode cX8_weightOf 38 = .ok (.iadd, 1) := by decide +kernel
theorem dX8_weightOf_39 : decode cX8_weightOf 39 = .ok (.iaload, 1) := by decide +kernel
theorem dX8_weightOf_40 : decode cX8_weightOf 40 = .ok (.imul, 1) := by decide +kernel
theorem dX8_weightOf_41 : decode cX8_weightOf 41 = .ok (.istore 5, 2) := by decide +kernel
theorem dX8_weightOf_43 : decode cX8_weightOf 43 = .ok (.aload_n 0, 1) := by decide +kernel
theorem dX8_weightOf_44 : decode cX8_weightOf 44 = .ok (.invokevirtual 282, 3) := by decide +kernel
theorem dX8_weightOf_47 : decode cX8_weightOf 47 = .ok (.aload_n 0, 1) := by decide +kernel
theorem dX8_weightOf_48 : decode cX8_weightOf 48 = .ok (.getfield 96, 3) := by decide +kernel
theorem dX8_weightOf_51 : decode cX8_weightOf 51 = .ok (.iload_n 3, 1) := by decide +kernel
theorem dX8_weightOf_52 : decode cX8_weightOf 52 = .ok (.iaload, 1) := by decide +kernel
theorem dX8_weightOf_53 : decode cX8_weightOf 53 = .ok (.imul, 1) := by decide +kernel
theorem dX8_weightOf_54 : decode cX8_weightOf 54 = .ok (.istore 6, 2) := by decide +kernel
theorem dX8_weightOf_56 : decode cX8_weightOf 56 = .ok (.aload_n 0, 1) := by decide +kernel
theorem dX8_weightOf_57 : decode cX8_weightOf 57 = .ok (.getfield 16, 3) := by decide +kernel
theorem dX8_weightOf_60 : decode cX8_weightOf 60 = .ok (.iload_n 1, 1) := by decide +kernel
theorem dX8_weightOf_61 : decode cX8_weightOf 61 = .ok (.iaload, 1) := by decide +kernel
theorem dX8_weightOf_62 : decode cX8_weightOf 62 = .ok (.tableswitch 147 1 6 #[38, 44, 50, 61, 79, 110], 38) := by decide +kernel
theorem dX8_weightOf_100 : decode cX8_weightOf 100 = .ok (.iload 4, 2) := by decide +kernel
theorem dX8_weightOf_102 : decode cX8_weightOf 102 = .ok (.iload 5, 2) := by decide +kernel
theorem dX8_weightOf_104 : decode cX8_weightOf 104 = .ok (.iadd, 1) := by decide +kernel
theorem dX8_weightOf_105 : decode cX8_weightOf 105 = .ok (.ireturn, 1) := by decide +kernel
theorem dX8_weightOf_106 : decode cX8_weightOf 106 = .ok (.iload 4, 2) := by decide +kernel
theorem dX8_weightOf_108 : decode cX8_weightOf 108 = .ok (.iload 6, 2) := by decide +kernel
theorem dX8_weightOf_110 : decode cX8_weightOf 110 = .ok (.iadd, 1) := by decide +kernel
theorem dX8_weightOf_111 : decode cX8_weightOf 111 = .ok (.ireturn, 1) := by decide +kernel
theorem dX8_weightOf_112 : decode cX8_weightOf 112 = .ok (.iload 4, 2) := by decide +kernel
theorem dX8_weightOf_114 : decode cX8_weightOf 114 = .ok (.aload_n 0, 1) := by decide +kernel
theorem dX8_weightOf_115 : decode cX8_weightOf 115 = .ok (.iload_n 1, 1) := by decide +kernel
theorem dX8_weightOf_116 : decode cX8_weightOf 116 = .ok (.iload_n 2, 1) := by decide +kernel
theorem dX8_weightOf_117 : decode cX8_weightOf 117 = .ok (.iload_n 3, 1) := by decide +kernel
theorem dX8_weightOf_118 : decode cX8_weightOf 118 = .ok (.invokevirtual 292, 3) := by decide +kernel
theorem dX8_weightOf_121 : decode cX8_weightOf 121 = .ok (.iadd, 1) := by decide +kernel
theorem dX8_weightOf_122 : decode cX8_weightOf 122 = .ok (.ireturn, 1) := by decide +kernel
theorem dX8_weightOf_123 : decode cX8_weightOf 123 = .ok (.iload 4, 2) := by decide +kernel
theorem dX8_weightOf_125 : decode cX8_weightOf 125 = .ok (.iload 5, 2) := by decide +kernel
theorem dX8_weightOf_127 : decode cX8_weightOf 127 = .ok (.iadd, 1) := by decide +kernel
theorem dX8_weightOf_128 : decode cX8_weightOf 128 = .ok (.iload_n 3, 1) := by decide +kernel
theorem dX8_weightOf_129 : decode cX8_weightOf 129 = .ok (.iconst 2, 1) := by decide +kernel
theorem dX8_weightOf_130 : decode cX8_weightOf 130 = .ok (.if_icmp .ne 8, 3) := by decide +kernel
theorem dX8_weightOf_133 : decode cX8_weightOf 133 = .ok (.bipush 30, 2) := by decide +kernel
theorem dX8_weightOf_135 : decode cX8_weightOf 135 = .ok (.goto 4, 3) := by decide +kernel
theorem dX8_weightOf_138 : decode cX8_weightOf 138 = .ok (.iconst 0, 1) := by decide +kernel
theorem dX8_weightOf_139 : decode cX8_weightOf 139 = .ok (.iadd, 1) := by decide +kernel
theorem dX8_weightOf_140 : decode cX8_weightOf 140 = .ok (.ireturn, 1) := by decide +kernel
theorem dX8_weightOf_141 : decode cX8_weightOf 141 = .ok (.aload_n 0, 1) := by decide +kernel
theorem dX8_weightOf_142 : decode cX8_weightOf 142 = .ok (.getfield 96, 3) := by decide +kernel
theorem dX8_weightOf_145 : decode cX8_weightOf 145 = .ok (.iconst 0, 1) := by decide +kernel
theorem dX8_weightOf_146 : decode cX8_weightOf 146 = .ok (.iaload, 1) := by decide +kernel
theorem dX8_weightOf_147 : decode cX8_weightOf 147 = .ok (.aload_n 0, 1) := by decide +kernel
theorem dX8_weightOf_148 : decode cX8_weightOf 148 = .ok (.getfield 96, 3) := by decide +kernel
theorem dX8_weightOf_151 : decode cX8_weightOf 151 = .ok (.iconst 1, 1) := by decide +kernel
theorem dX8_weightOf_152 : decode cX8_weightOf 152 = .ok (.iaload, 1) := by decide +kernel
theorem dX8_weightOf_153 : decode cX8_weightOf 153 = .ok (.iadd, 1) := by decide +kernel
theorem dX8_weightOf_154 : decode cX8_weightOf 154 = .ok (.aload_n 0, 1) := by decide +kernel
theorem dX8_weightOf_155 : decode cX8_weightOf 155 = .ok (.getfield 96, 3) := by decide +kernel
theorem dX8_weightOf_158 : decode cX8_weightOf 158 = .ok (.iconst 2, 1) := by decide +kernel
theorem dX8_weightOf_159 : decode cX8_weightOf 159 = .ok (.iaload, 1) := by decide +kernel
theorem dX8_weightOf_160 : decode cX8_weightOf 160 = .ok (.iadd, 1) := by decide +kernel
theorem dX8_weightOf_161 : decode cX8_weightOf 161 = .ok (.ifCond .le 8, 3) := by decide +kernel
theorem dX8_weightOf_164 : decode cX8_weightOf 164 = .ok (.iload 6, 2) := by decide +kernel
theorem dX8_weightOf_166 : decode cX8_weightOf 166 = .ok (.goto 5, 3) := by decide +kernel
theorem dX8_weightOf_169 : decode cX8_weightOf 169 = .ok (.iload 4, 2) := by decide +kernel
theorem dX8_weightOf_171 : decode cX8_weightOf 171 = .ok (.ireturn, 1) := by decide +kernel
theorem dX8_weightOf_172 : decode cX8_weightOf 172 = .ok (.iload 4, 2) := by decide +kernel
theorem dX8_weightOf_174 : decode cX8_weightOf 174 = .ok (.aload_n 0, 1) := by decide +kernel
theorem dX8_weightOf_175 : decode cX8_weightOf 175 = .ok (.iload_n 1, 1) := by decide +kernel
theorem dX8_weightOf_176 : decode cX8_weightOf 176 = .ok (.iload_n 2, 1) := by decide +kernel
theorem dX8_weightOf_177 : decode cX8_weightOf 177 = .ok (.iload_n 3, 1) := by decide +kernel
theorem dX8_weightOf_178 : decode cX8_weightOf 178 = .ok (.invokevirtual 292, 3) := by decide +kernel
theorem dX8_weightOf_181 : decode cX8_weightOf 181 = .ok (.iadd, 1) := by decide +kernel
theorem dX8_weightOf_182 : decode cX8_weightOf 182 = .ok (.iload_n 3, 1) := by decide +kernel
theorem dX8_weightOf_183 : decode cX8_weightOf 183 = .ok (.aload_n 0, 1) := by decide +kernel
theorem dX8_weightOf_184 : decode cX8_weightOf 184 = .ok (.getfield 38, 3) := by decide +kernel
theorem dX8_weightOf_187 : decode cX8_weightOf 187 = .ok (.iconst 4, 1) := by decide +kernel
theorem dX8_weightOf_188 : decode cX8_weightOf 188 = .ok (.iload_n 1, 1) := by decide +kernel
theorem dX8_weightOf_189 : decode cX8_weightOf 189 = .ok (.imul, 1) := by decide +kernel
theorem dX8_weightOf_190 : decode cX8_weightOf 190 = .ok (.aload_n 0, 1) := by decide +kernel
theorem dX8_weightOf_191 : decode cX8_weightOf 191 = .ok (.getfield 13, 3) := by decide +kernel
theorem dX8_weightOf_194 : decode cX8_weightOf 194 = .ok (.iconst 4, 1) := by decide +kernel
theorem dX8_weightOf_195 : decode cX8_weightOf 195 = .ok (.irem, 1) := by decide +kernel
theorem dX8_weightOf_196 : decode cX8_weightOf 196 = .ok (.iadd, 1) := by decide +kernel
theorem dX8_weightOf_197 : decode cX8_weightOf 197 = .ok (.iaload, 1) := by decide +kernel
theorem dX8_weightOf_198 : decode cX8_weightOf 198 = .ok (.if_icmp .ne 8, 3) := by decide +kernel
theorem dX8_weightOf_201 : decode cX8_weightOf 201 = .ok (.bipush 40, 2) := by decide +kernel
theorem dX8_weightOf_203 : decode cX8_weightOf 203 = .ok (.goto 4, 3) := by decide +kernel
theorem dX8_weightOf_206 : decode cX8_weightOf 206 = .ok (.iconst 0, 1) := by decide +kernel
theorem dX8_weightOf_207 : decode cX8_weightOf 207 = .ok (.iadd, 1) := by decide +kernel
theorem dX8_weightOf_208 : decode cX8_weightOf 208 = .ok (.ireturn, 1) := by decide +kernel
theorem dX8_weightOf_209 : decode cX8_weightOf 209 = .ok (.iload 4, 2) := by decide +kernel
theorem dX8_weightOf_211 : decode cX8_weightOf 211 = .ok (.ireturn, 1) := by decide +kernel
theorem oM_weightOf : zok yX8_weightOf 3 := by decide +kernel
theorem dX8_friendly_0 : decode cX8_friendly 0 = .ok (.iload_n 2, 1) := by decide +kernel
theorem dX8_friendly_1 : decode cX8_friendly 1 = .ok (.aload_n 0, 1) := by decide +kernel
theorem dX8_friendly_2 : decode cX8_friendly 2 = .ok (.getfield 20, 3) := by decide +kernel
theorem dX8_friendly_5 : decode cX8_friendly 5 = .ok (.iload_n 1, 1) := by decide +kernel
theorem dX8_friendly_6 : decode cX8_friendly 6 = .ok (.iaload, 1) := by decide +kernel
theorem dX8_friendly_7 : decode cX8_friendly 7 = .ok (.aload_n 0, 1) := by decide +kernel
theorem dX8_friendly_8 : decode cX8_friendly 8 = .ok (.getfield 7, 3) := by decide +kernel
theorem dX8_friendly_11 : decode cX8_friendly 11 = .ok (.irem, 1) := by decide +kernel
theorem dX8_friendly_12 : decode cX8_friendly 12 = .ok (.if_icmp .ne 23, 3) := by decide +kernel
theorem dX8_friendly_15 : decode cX8_friendly 15 = .ok (.iload_n 3, 1) := by decide +kernel
theorem dX8_friendly_16 : decode cX8_friendly 16 = .ok (.aload_n 0, 1) := by decide +kernel
theorem dX8_friendly_17 : decode cX8_friendly 17 = .ok (.iload_n 2, 1) := by decide +kernel
theorem dX8_friendly_18 : decode cX8_friendly 18 = .ok (.invokevirtual 289, 3) := by decide +kernel
theorem dX8_friendly_21 : decode cX8_friendly 21 = .ok (.if_icmp .ne 14, 3) := by decide +kernel
theorem dX8_friendly_24 : decode cX8_friendly 24 = .ok (.iconst 5, 1) := by decide +kernel
theorem dX8_friendly_25 : decode cX8_friendly 25 = .ok (.aload_n 0, 1) := by decide +kernel
theorem dX8_friendly_26 : decode cX8_friendly 26 = .ok (.getfield 20, 3) := by decide +kernel
theorem dX8_friendly_29 : decode cX8_friendly 29 = .ok (.iload_n 1, 1) := by decide +kernel
theorem dX8_friendly_30 : decode cX8_friendly 30 = .ok (.iaload, 1) := by decide +kernel
theorem dX8_friendly_31 : decode cX8_friendly 31 = .ok (.imul, 1) := by decide +kernel
theorem dX8_friendly_32 : decode cX8_friendly 32 = .ok (.goto 4, 3) := by decide +kernel
theorem dX8_friendly_35 : decode cX8_friendly 35 = .ok (.iconst 0, 1) := by decide +kernel
theorem dX8_friendly_36 : decode cX8_friendly 36 = .ok (.ireturn, 1) := by decide +kernel
theorem oM_friendly : zok yX8_friendly 3 := by decide +kernel
theorem dX8_liePlace_0 : decode cX8_liePlace 0 = .ok (.iconst 0, 1) := by decide +kernel
theorem dX8_liePlace_1 : decode cX8_liePlace 1 = .ok (.istore_n 2, 1) := by decide +kernel
theorem dX8_liePlace_2 : decode cX8_liePlace 2 = .ok (.aload_n 0, 1) := by decide +kernel
theorem dX8_liePlace_3 : decode cX8_liePlace 3 = .ok (.getfield 35, 3) := by decide +kernel
theorem dX8_liePlace_6 : decode cX8_liePlace 6 = .ok (.iconst 3, 1) := by decide +kernel
theorem dX8_liePlace_7 : decode cX8_liePlace 7 = .ok (.iload_n 1, 1) := by decide +kernel
theorem dX8_liePlace_8 : decode cX8_liePlace 8 = .ok (.imul, 1) := by decide +kernel
theorem dX8_liePlace_9 : decode cX8_liePlace 9 = .ok (.iload_n 2, 1) := by decide +kernel
theorem dX8_liePlace_10 : decode cX8_liePlace 10 = .ok (.iadd, 1) := by decide +kernel
theorem dX8_liePlace_11 : decode cX8_liePlace 11 = .ok (.iaload, 1) := by decide +kernel
theorem dX8_liePlace_12 : decode cX8_liePlace 12 = .ok (.aload_n 0, 1) := by decide +kernel
theorem dX8_liePlace_13 : decode cX8_liePlace 13 = .ok (.getfield 26, 3) := by decide +kernel
theorem dX8_liePlace_16 : decode cX8_liePlace 16 = .ok (.iload_n 1, 1) := by decide +kernel
theorem dX8_liePlace_17 : decode cX8_liePlace 17 = .ok (.iaload, 1) := by decide +kernel
theorem dX8_liePlace_18 : decode cX8_liePlace 18 = .ok (.if_icmp .eq 9, 3) := by decide +kernel
theorem dX8_liePlace_21 : decode cX8_liePlace 21 = .ok (.iinc 2 1, 3) := by decide +kernel
theorem dX8_liePlace_24 : decode cX8_liePlace 24 = .ok (.goto (-22), 3) := by decide +kernel
theorem dX8_liePlace_27 : decode cX8_liePlace 27 = .ok (.iload_n 2, 1) := by decide +kernel
theorem dX8_liePlace_28 : decode cX8_liePlace 28 = .ok (.ireturn, 1) := by decide +kernel
theorem oM_liePlace : zok yX8_liePlace 1 := by decide +kernel
theorem dX8_guess_0 : decode cX8_guess 0 = .ok (.aload_n 0, 1) := by decide +kernel
theorem dX8_guess_1 : decode cX8_guess 1 = .ok (.iload_n 1, 1) := by decide +kernel
theorem dX8_guess_2 : decode cX8_guess 2 = .ok (.invokevirtual 213, 3) := by decide +kernel
theorem dX8_guess_5 : decode cX8_guess 5 = .ok (.ifCond .eq 11, 3) := by decide +kernel
theorem dX8_guess_8 : decode cX8_guess 8 = .ok (.aload_n 0, 1) := by decide +kernel
theorem dX8_guess_9 : decode cX8_guess 9 = .ok (.iload_n 2, 1) := by decide +kernel
theorem dX8_guess_10 : decode cX8_guess 10 = .ok (.invokevirtual 213, 3) := by decide +kernel
theorem dX8_guess_13 : decode cX8_guess 13 = .ok (.ifCond .ne 5, 3) := by decide +kernel
theorem dX8_guess_16 : decode cX8_guess 16 = .ok (.iconst (-1), 1) := by decide +kernel
theorem dX8_guess_17 : decode cX8_guess 17 = .ok (.ireturn, 1) := by decide +kernel
theorem dX8_guess_18 : decode cX8_guess 18 = .ok (.iload_n 1, 1) := by decide +kernel
theorem dX8_guess_19 : decode cX8_guess 19 = .ok (.iload_n 2, 1) := by decide +kernel
theorem dX8_guess_20 : decode cX8_guess 20 = .ok (.if_icmp .ne 6, 3) := by decide +kernel
theorem dX8_guess_23 : decode cX8_guess 23 = .ok (.bipush (-2), 2) := by decide +kernel
theorem dX8_guess_25 : decode cX8_guess 25 = .ok (.ireturn, 1) := by decide +kernel
theorem dX8_guess_26 : decode cX8_guess 26 = .ok (.aload_n 0, 1) := by decide +kernel
theorem dX8_guess_27 : decode cX8_guess 27 = .ok (.iload_n 2, 1) := by decide +kernel
theorem dX8_guess_28 : decode cX8_guess 28 = .ok (.invokevirtual 309, 3) := by decide +kernel
theorem dX8_guess_31 : decode cX8_guess 31 = .ok (.istore_n 3, 1) := by decide +kernel
theorem dX8_guess_32 : decode cX8_guess 32 = .ok (.aload_n 0, 1) := by decide +kernel
theorem dX8_guess_33 : decode cX8_guess 33 = .ok (.getfield 99, 3) := by decide +kernel
theorem dX8_guess_36 : decode cX8_guess 36 = .ok (.iload_n 1, 1) := by decide +kernel
theorem dX8_guess_37 : decode cX8_guess 37 = .ok (.iaload, 1) := by decide +kernel
theorem dX8_guess_38 : decode cX8_guess 38 = .ok (.ireturn, 1) := by decide +kernel
theorem oM_guess : zok yX8_guess 2 := by decide +kernel
theorem dX8_hands_0 : decode cX8_hands 0 = .ok (.aload_n 0, 1) := by decide +kernel
theorem dX8_hands_1 : decode cX8_hands 1 = .ok (.iload_n 1, 1) := by decide +kernel
theorem dX8_hands_2 : decode cX8_hands 2 = .ok (.invokevirtual 213, 3) := by decide +kernel
theorem dX8_hands_5 : decode cX8_hands 5 = .ok (.ifCond .eq 13, 3) := by decide +kernel
theorem dX8_hands_8 : decode cX8_hands 8 = .ok (.aload_n 0, 1) := by decide +kernel
theorem dX8_hands_9 : decode cX8_hands 9 = .ok (.iload_n 2, 1) := by decide +kernel
theorem dX8_hands_10 : decode cX8_hands 10 = .ok (.iconst 0, 1) := by decide +kernel
theorem dX8_hands_11 : decode cX8_hands 11 = .ok (.iconst 3, 1) := by decide +kernel
theorem dX8_hands_12 : decode cX8_hands 12 = .ok (.invokevirtual 209, 3) := by decide +kernel
theorem dX8_hands_15 : decode cX8_hands 15 = .ok (.ifCond .ne 5, 3) := by decide +kernel
theorem dX8_hands_18 : decode cX8_hands 18 = .ok (.iconst (-1), 1) := by decide +kernel
theorem dX8_hands_19 : decode cX8_hands 19 = .ok (.ireturn, 1) := by decide +kernel
theorem dX8_hands_20 : decode cX8_hands 20 = .ok (.aload_n 0, 1) := by decide +kernel
theorem dX8_hands_21 : decode cX8_hands 21 = .ok (.iload_n 1, 1) := by decide +kernel
theorem dX8_hands_22 : decode cX8_hands 22 = .ok (.invokevirtual 309, 3) := by decide +kernel
theorem dX8_hands_25 : decode cX8_hands 25 = .ok (.istore_n 3, 1) := by decide +kernel
theorem dX8_hands_26 : decode cX8_hands 26 = .ok (.iload_n 2, 1) := by decide +kernel
theorem dX8_hands_27 : decode cX8_hands 27 = .ok (.iconst 3, 1) := by decide +kernel
theorem dX8_hands_28 : decode cX8_hands 28 = .ok (.if_icmp .ge 12, 3) := by decide +kernel
theorem dX8_hands_31 : decode cX8_hands 31 = .ok (.aload_n 0, 1) := by decide +kernel
theorem dX8_hands_32 : decode cX8_hands 32 = .ok (.getfield 96, 3) := by decide +kernel
theorem dX8_hands_35 : decode cX8_hands 35 = .ok (.iload_n 2, 1) := by decide +kernel
theorem dX8_hands_36 : decode cX8_hands 36 = .ok (.iaload, 1) := by decide +kernel
theorem dX8_hands_37 : decode cX8_hands 37 = .ok (.goto 4, 3) := by decide +kernel
theorem dX8_hands_40 : decode cX8_hands 40 = .ok (.iload_n 3, 1) := by decide +kernel
theorem dX8_hands_41 : decode cX8_hands 41 = .ok (.ireturn, 1) := by decide +kernel
theorem oM_hands : zok yX8_hands 2 := by decide +kernel
theorem dX8_order_0 : decode cX8_order 0 = .ok (.aload_n 0, 1) := by decide +kernel
theorem dX8_order_1 : decode cX8_order 1 = .ok (.iload_n 1, 1) := by decide +kernel
theorem dX8_order_2 : decode cX8_order 2 = .ok (.invokevirtual 213, 3) := by decide +kernel
theorem dX8_order_5 : decode cX8_order 5 = .ok (.ifCond .eq 13, 3) := by decide +kernel
theorem dX8_order_8 : decode cX8_order 8 = .ok (.aload_n 0, 1) := by decide +kernel
theorem dX8_order_9 : decode cX8_order 9 = .ok (.iload_n 2, 1) := by decide +kernel
theorem dX8_order_10 : decode cX8_order 10 = .ok (.iconst 0, 1) := by decide +kernel
theorem dX8_order_11 : decode cX8_order 11 = .ok (.iconst 3, 1) := by decide +kernel
theorem dX8_order_12 : decode cX8_order 12 = .ok (.invokevirtual 209, 3) := by decide +kernel
theorem dX8_order_15 : decode cX8_order 15 = .ok (.ifCond .ne 5, 3) := by decide +kernel
theorem dX8_order_18 : decode cX8_order 18 = .ok (.iconst (-1), 1) := by decide +kernel
theorem dX8_order_19 : decode cX8_order 19 = .ok (.ireturn, 1) := by decide +kernel
theorem dX8_order_20 : decode cX8_order 20 = .ok (.aload_n 0, 1) := by decide +kernel
theorem dX8_order_21 : decode cX8_order 21 = .ok (.getfield 35, 3) := by decide +kernel
theorem dX8_order_24 : decode cX8_order 24 = .ok (.iconst 3, 1) := by decide +kernel
theorem dX8_order_25 : decode cX8_order 25 = .ok (.iload_n 1, 1) := by decide +kernel
theorem dX8_order_26 : decode cX8_order 26 = .ok (.imul, 1) := by decide +kernel
theorem dX8_order_27 : decode cX8_order 27 = .ok (.iaload, 1) := by decide +kernel
theorem dX8_order_28 : decode cX8_order 28 = .ok (.istore_n 3, 1) := by decide +kernel
theorem dX8_order_29 : decode cX8_order 29 = .ok (.aload_n 0, 1) := by decide +kernel
theorem dX8_order_30 : decode cX8_order 30 = .ok (.getfield 35, 3) := by decide +kernel
theorem dX8_order_33 : decode cX8_order 33 = .ok (.iconst 3, 1) := by decide +kernel
theorem dX8_order_34 : decode cX8_order 34 = .ok (.iload_n 1, 1) := by decide +kernel
theorem dX8_order_35 : decode cX8_order 35 = .ok (.imul, 1) := by decide +kernel
theorem dX8_order_36 : decode cX8_order 36 = .ok (.iconst 1, 1) := by decide +kernel
theorem dX8_order_37 : decode cX8_order 37 = .ok (.iadd, 1) := by decide +kernel
theorem dX8_order_38 : decode cX8_order 38 = .ok (.iaload, 1) := by decide +kernel
theorem dX8_order_39 : decode cX8_order 39 = .ok (.istore 4, 2) := by decide +kernel
theorem dX8_order_41 : decode cX8_order 41 = .ok (.aload_n 0, 1) := by decide +kernel
theorem dX8_order_42 : decode cX8_order 42 = .ok (.iconst (-1), 1) := by decide +kernel
theorem dX8_order_43 : decode cX8_order 43 = .ok (.putfield 108, 3) := by decide +kernel
theorem dX8_order_46 : decode cX8_order 46 = .ok (.iconst 0, 1) := by decide +kernel
theorem dX8_order_47 : decode cX8_order 47 = .ok (.istore 5, 2) := by decide +kernel
theorem dX8_order_49 : decode cX8_order 49 = .ok (.iload 5, 2) := by decide +kernel
theorem dX8_order_51 : decode cX8_order 51 = .ok (.bipush 9, 2) := by decide +kernel
theorem dX8_order_53 : decode cX8_order 53 = .ok (.if_icmp .ge 67, 3) := by decide +kernel
theorem dX8_order_56 : decode cX8_order 56 = .ok (.iload 5, 2) := by decide +kernel
theorem dX8_order_58 : decode cX8_order 58 = .ok (.iconst 3, 1) := by decide +kernel
theorem dX8_order_59 : decode cX8_order 59 = .ok (.idiv, 1) := by decide +kernel
theorem dX8_order_60 : decode cX8_order 60 = .ok (.iload 5, 2) := by decide +kernel
theorem dX8_order_62 : decode cX8_order 62 = .ok (.iconst 3, 1) := by decide +kernel
theorem dX8_order_63 : decode cX8_order 63 = .ok (.irem, 1) := by decide +kernel
theorem dX8_order_64 : decode cX8_order 64 = .ok (.if_icmp .ne 6, 3) := by decide +kernel
theorem dX8_order_67 : decode cX8_order 67 = .ok (.goto 47, 3) := by decide +kernel
theorem dX8_order_70 : decode cX8_order 70 = .ok (.aload_n 0, 1) := by decide +kernel
theorem dX8_order_71 : decode cX8_order 71 = .ok (.iload_n 1, 1) := by decide +kernel
theorem dX8_order_72 : decode cX8_order 72 = .ok (.iload 5, 2) := by decide +kernel
theorem dX8_order_74 : decode cX8_order 74 = .ok (.iconst 3, 1) := by decide +kernel
theorem dX8_order_75 : decode cX8_order 75 = .ok (.idiv, 1) := by decide +kernel
theorem dX8_order_76 : decode cX8_order 76 = .ok (.iload 5, 2) := by decide +kernel
theorem dX8_order_78 : decode cX8_order 78 = .ok (.iconst 3, 1) := by decide +kernel
theorem dX8_order_79 : decode cX8_order 79 = .ok (.irem, 1) := by decide +kernel
theorem dX8_order_80 : decode cX8_order 80 = .ok (.invokevirtual 217, 3) := by decide +kernel
theorem dX8_order_83 : decode cX8_order 83 = .ok (.aload_n 0, 1) := by decide +kernel
theorem dX8_order_84 : decode cX8_order 84 = .ok (.iload_n 1, 1) := by decide +kernel
theorem dX8_order_85 : decode cX8_order 85 = .ok (.invokevirtual 309, 3) := by decide +kernel
theorem dX8_order_88 : decode cX8_order 88 = .ok (.istore 6, 2) := by decide +kernel
theorem dX8_order_90 : decode cX8_order 90 = .ok (.iload 6, 2) := by decide +kernel
theorem dX8_order_92 : decode cX8_order 92 = .ok (.aload_n 0, 1) := by decide +kernel
theorem dX8_order_93 : decode cX8_order 93 = .ok (.getfield 108, 3) := by decide +kernel
theorem dX8_order_96 : decode cX8_order 96 = .ok (.if_icmp .gt 6, 3) := by decide +kernel
theorem dX8_order_99 : decode cX8_order 99 = .ok (.goto 15, 3) := by decide +kernel
theorem dX8_order_102 : decode cX8_order 102 = .ok (.aload_n 0, 1) := by decide +kernel
theorem dX8_order_103 : decode cX8_order 103 = .ok (.iload 6, 2) := by decide +kernel
theorem dX8_order_105 : decode cX8_order 105 = .ok (.putfield 108, 3) := by decide +kernel
theorem dX8_order_108 : decode cX8_order 108 = .ok (.aload_n 0, 1) := by decide +kernel
theorem dX8_order_109 : decode cX8_order 109 = .ok (.iload 5, 2) := by decide +kernel
theorem dX8_order_111 : decode cX8_order 111 = .ok (.putfield 105, 3) := by decide +kernel
theorem dX8_order_114 : decode cX8_order 114 = .ok (.iinc 5 1, 3) := by decide +kernel
theorem dX8_order_117 : decode cX8_order 117 = .ok (.goto (-68), 3) := by decide +kernel
theorem dX8_order_120 : decode cX8_order 120 = .ok (.aload_n 0, 1) := by decide +kernel
theorem dX8_order_121 : decode cX8_order 121 = .ok (.iload_n 1, 1) := by decide +kernel
theorem dX8_order_122 : decode cX8_order 122 = .ok (.iload_n 3, 1) := by decide +kernel
theorem dX8_order_123 : decode cX8_order 123 = .ok (.iload 4, 2) := by decide +kernel
theorem dX8_order_125 : decode cX8_order 125 = .ok (.invokevirtual 217, 3) := by decide +kernel
theorem dX8_order_128 : decode cX8_order 128 = .ok (.aload_n 0, 1) := by decide +kernel
theorem dX8_order_129 : decode cX8_order 129 = .ok (.getfield 105, 3) := by decide +kernel
theorem dX8_order_132 : decode cX8_order 132 = .ok (.iconst 3, 1) := by decide +kernel
theorem dX8_order_133 : decode cX8_order 133 = .ok (.idiv, 1) := by decide +kernel
theorem dX8_order_134 : decode cX8_order 134 = .ok (.istore 5, 2) := by decide +kernel
theorem dX8_order_136 : decode cX8_order 136 = .ok (.aload_n 0, 1) := by decide +kernel
theorem dX8_order_137 : decode cX8_order 137 = .ok (.getfield 105, 3) := by decide +kernel
theorem dX8_order_140 : decode cX8_order 140 = .ok (.iconst 3, 1) := by decide +kernel
theorem dX8_order_141 : decode cX8_order 141 = .ok (.irem, 1) := by decide +kernel
theorem dX8_order_142 : decode cX8_order 142 = .ok (.istore 6, 2) := by decide +kernel
theorem dX8_order_144 : decode cX8_order 144 = .ok (.iload_n 2, 1) := by decide +kernel
theorem dX8_order_145 : decode cX8_order 145 = .ok (.ifCond .ne 10, 3) := by decide +kernel
theorem dX8_order_148 : decode cX8_order 148 = .ok (.aload_n 0, 1) := by decide +kernel
theorem dX8_order_149 : decode cX8_order 149 = .ok (.getfield 108, 3) := by decide +kernel
theorem dX8_order_152 : decode cX8_order 152 = .ok (.goto 30, 3) := by decide +kernel
theorem dX8_order_155 : decode cX8_order 155 = .ok (.iload_n 2, 1) := by decide +kernel
theorem dX8_order_156 : decode cX8_order 156 = .ok (.iconst 1, 1) := by decide +kernel
theorem dX8_order_157 : decode cX8_order 157 = .ok (.if_icmp .ne 8, 3) := by decide +kernel
theorem dX8_order_160 : decode cX8_order 160 = .ok (.iload 5, 2) := by decide +kernel
theorem dX8_order_162 : decode cX8_order 162 = .ok (.goto 20, 3) := by decide +kernel
theorem dX8_order_165 : decode cX8_order 165 = .ok (.iload_n 2, 1) := by decide +kernel
theorem dX8_order_166 : decode cX8_order 166 = .ok (.iconst 2, 1) := by decide +kernel
theorem dX8_order_167 : decode cX8_order 167 = .ok (.if_icmp .ne 8, 3) := by decide +kernel
theorem dX8_order_170 : decode cX8_order 170 = .ok (.iload 6, 2) := by decide +kernel
theorem dX8_order_172 : decode cX8_order 172 = .ok (.goto 10, 3) := by decide +kernel
theorem dX8_order_175 : decode cX8_order 175 = .ok (.iconst 3, 1) := by decide +kernel
theorem dX8_order_176 : decode cX8_order 176 = .ok (.iload 5, 2) := by decide +kernel
theorem dX8_order_178 : decode cX8_order 178 = .ok (.isub, 1) := by decide +kernel
theorem dX8_order_179 : decode cX8_order 179 = .ok (.iload 6, 2) := by decide +kernel
theorem dX8_order_181 : decode cX8_order 181 = .ok (.isub, 1) := by decide +kernel
theorem dX8_order_182 : decode cX8_order 182 = .ok (.ireturn, 1) := by decide +kernel
theorem oM_order : zok yX8_order 2 := by decide +kernel
