theorem dX7_person_0 : decode cX7_person 0 = .ok (.iload_n 1, 1) := by decide +kernel
theorem dX7_person_1 : decode cX7_person 1 = .ok (.ifCond .lt 9, 3) := by decide +kernel
theorem dX7_person_4 : decode cX7_person 4 = .ok (.iload_n 1, 1) := by decide +kernel
theorem dX7_person_5 : decode cX7_person 5 = .ok (.bipush 7, 2) := by decide +kernel
theorem dX7_person_7 : decode cX7_person 7 = .ok (.if_icmp .lt 5, 3) := by decide +kernel
theorem dX7_person_10 : decode cX7_person 10 = .ok (.iconst (-1), 1) := by decide +kernel
theorem dX7_person_11 : decode cX7_person 11 = .ok (.ireturn, 1) := by decide +kernel
theorem dX7_person_12 : decode cX7_person 12 = .ok (.iload_n 2, 1) := by decide +kernel
theorem dX7_person_13 : decode cX7_person 13 = .ok (.ifCond .lt 9, 3) := by decide +kernel
theorem dX7_person_16 : decode cX7_person 16 = .ok (.iload_n 2, 1) := by decide +kernel
theorem dX7_person_17 : decode cX7_person 17 = .ok (.bipush 9, 2) := by decide +kernel
theorem dX7_person_19 : decode cX7_person 19 = .ok (.if_icmp .le 6, 3) := by decide +kernel
theorem dX7_person_22 : decode cX7_person 22 = .ok (.bipush (-2), 2) := by decide +kernel
theorem dX7_person_24 : decode cX7_person 24 = .ok (.ireturn, 1) := by decide +kernel
theorem dX7_person_25 : decode cX7_person 25 = .ok (.aload_n 0, 1) := by decide +kernel
theorem dX7_person_26 : decode cX7_person 26 = .ok (.getfield 12, 3) := by decide +kernel
theorem dX7_person_29 : decode cX7_person 29 = .ok (.getfield 73, 3) := by decide +kernel
theorem dX7_person_32 : decode cX7_person 32 = .ok (.bipush 6, 2) := by decide +kernel
theorem dX7_person_34 : decode cX7_person 34 = .ok (.if_icmp .lt 8, 3) := by decide +kernel
theorem dX7_person_37 : decode cX7_person 37 = .ok (.bipush (-4), 2) := by decide +kernel
theorem dX7_person_39 : decode cX7_person 39 = .ok (.goto 12, 3) := by decide +kernel
theorem dX7_person_42 : decode cX7_person 42 = .ok (.aload_n 0, 1) := by decide +kernel
theorem dX7_person_43 : decode cX7_person 43 = .ok (.getfield 12, 3) := by decide +kernel
theorem dX7_person_46 : decode cX7_person 46 = .ok (.iload_n 1, 1) := by decide +kernel
theorem dX7_person_47 : decode cX7_person 47 = .ok (.iload_n 2, 1) := by decide +kernel
theorem dX7_person_48 : decode cX7_person 48 = .ok (.invokevirtual 77, 3) := by decide +kernel
theorem dX7_person_51 : decode cX7_person 51 = .ok (.ireturn, 1) := by decide +kernel
theorem oG_person : zok yX7_person 2 := by decide +kernel
theorem dX2_join_0 : decode cX2_join 0 = .ok (.aload_n 0, 1) := by decide +kernel
theorem dX2_join_1 : decode cX2_join 1 = .ok (.getfield 11, 3) := by decide +kernel
theorem dX2_join_4 : decode cX2_join 4 = .ok (.aload_n 0, 1) := by decide +kernel
theorem dX2_join_5 : decode cX2_join 5 = .ok (.getfield 31, 3) := by decide +kernel
theorem dX2_join_8 : decode cX2_join 8 = .ok (.aaload, 1) := by decide +kernel
theorem dX2_join_9 : decode cX2_join 9 = .ok (.iload_n 1, 1) := by decide +kernel
theorem dX2_join_10 : decode cX2_join 10 = .ok (.iload_n 2, 1) := by decide +kernel
theorem dX2_join_11 : decode cX2_join 11 = .ok (.invokevirtual 34, 3) := by decide +kernel
theorem dX2_join_14 : decode cX2_join 14 = .ok (.aload_n 0, 1) := by decide +kernel
theorem dX2_join_15 : decode cX2_join 15 = .ok (.dup, 1) := by decide +kernel
theorem dX2_join_16 : decode cX2_join 16 = .ok (.getfield 31, 3) := by decide +kernel
theorem dX2_join_19 : decode cX2_join 19 = .ok (.iconst 1, 1) := by decide +kernel
theorem dX2_join_20 : decode cX2_join 20 = .ok (.iadd, 1) := by decide +kernel
theorem dX2_join_21 : decode cX2_join 21 = .ok (.putfield 31, 3) := by decide +kernel
theorem dX2_join_24 : decode cX2_join 24 = .ok (.aload_n 0, 1) := by decide +kernel
theorem dX2_join_25 : decode cX2_join 25 = .ok (.getfield 31, 3) := by decide +kernel
theorem dX2_join_28 : decode cX2_join 28 = .ok (.iconst 1, 1) := by decide +kernel
theorem dX2_join_29 : decode cX2_join 29 = .ok (.isub, 1) := by decide +kernel
theorem dX2_join_30 : decode cX2_join 30 = .ok (.ireturn, 1) := by decide +kernel
theorem oP_join : zok yX2_join 2 := by decide +kernel
theorem dX3_begin_0 : decode cX3_begin 0 = .ok (.aload_n 0, 1) := by decide +kernel
theorem dX3_begin_1 : decode cX3_begin 1 = .ok (.iload_n 1, 1) := by decide +kernel
theorem dX3_begin_2 : decode cX3_begin 2 = .ok (.putfield 28, 3) := by decide +kernel
theorem dX3_begin_5 : decode cX3_begin 5 = .ok (.aload_n 0, 1) := by decide +kernel
theorem dX3_begin_6 : decode cX3_begin 6 = .ok (.iload_n 2, 1) := by decide +kernel
theorem dX3_begin_7 : decode cX3_begin 7 = .ok (.putfield 31, 3) := by decide +kernel
theorem dX3_begin_10 : decode cX3_begin 10 = .ok (.aload_n 0, 1) := by decide +kernel
theorem dX3_begin_11 : decode cX3_begin 11 = .ok (.iconst 0, 1) := by decide +kernel
theorem dX3_begin_12 : decode cX3_begin 12 = .ok (.putfield 34, 3) := by decide +kernel
theorem dX3_begin_15 : decode cX3_begin 15 = .ok (.aload_n 0, 1) := by decide +kernel
theorem dX3_begin_16 : decode cX3_begin 16 = .ok (.iconst 0, 1) := by decide +kernel
theorem dX3_begin_17 : decode cX3_begin 17 = .ok (.putfield 37, 3) := by decide +kernel
theorem dX3_begin_20 : decode cX3_begin 20 = .ok (.iconst 0, 1) := by decide +kernel
theorem dX3_begin_21 : decode cX3_begin 21 = .ok (.istore_n 3, 1) := by decide +kernel
theorem dX3_begin_22 : decode cX3_begin 22 = .ok (.iload_n 3, 1) := by decide +kernel
theorem dX3_begin_23 : decode cX3_begin 23 = .ok (.iconst 3, 1) := by decide +kernel
theorem dX3_begin_24 : decode cX3_begin 24 = .ok (.if_icmp .ge 31, 3) := by decide +kernel
theorem dX3_begin_27 : decode cX3_begin 27 = .ok (.aload_n 0, 1) := by decide +kernel
theorem dX3_begin_28 : decode cX3_begin 28 = .ok (.getfield 9, 3) := by decide +kernel
theorem dX3_begin_31 : decode cX3_begin 31 = .ok (.iload_n 3, 1) := by decide +kernel
theorem dX3_begin_32 : decode cX3_begin 32 = .ok (.bipush 50, 2) := by decide +kernel
theorem dX3_begin_34 : decode cX3_begin 34 = .ok (.iastore, 1) := by decide +kernel
theorem dX3_begin_35 : decode cX3_begin 35 = .ok (.aload_n 0, 1) := by decide +kernel
theorem dX3_begin_36 : decode cX3_begin 36 = .ok (.getfield 15, 3) := by decide +kernel
theorem dX3_begin_39 : decode cX3_begin 39 = .ok (.iload_n 3, 1) := by decide +kernel
theorem dX3_begin_40 : decode cX3_begin 40 = .ok (.iconst 5, 1) := by decide +kernel
theorem dX3_begin_41 : decode cX3_begin 41 = .ok (.iastore, 1) := by decide +kernel
theorem dX3_begin_42 : decode cX3_begin 42 = .ok (.aload_n 0, 1) := by decide +kernel
theorem dX3_begin_43 : decode cX3_begin 43 = .ok (.getfield 18, 3) := by decide +kernel
theorem dX3_begin_46 : decode cX3_begin 46 = .ok (.iload_n 3, 1) := by decide +kernel
theorem dX3_begin_47 : decode cX3_begin 47 = .ok (.iload_n 3, 1) := by decide +kernel
theorem dX3_begin_48 : decode cX3_begin 48 = .ok (.iastore, 1) := by decide +kernel
theorem dX3_begin_49 : decode cX3_begin 49 = .ok (.iinc 3 1, 3) := by decide +kernel
theorem dX3_begin_52 : decode cX3_begin 52 = .ok (.goto (-30), 3) := by decide +kernel
theorem dX3_begin_55 : decode cX3_begin 55 = .ok (.iconst 0, 1) := by decide +kernel
theorem dX3_begin_56 : decode cX3_begin 56 = .ok (.istore_n 3, 1) := by decide +kernel
theorem dX3_begin_57 : decode cX3_begin 57 = .ok (.iload_n 3, 1) := by decide +kernel
theorem dX3_begin_58 : decode cX3_begin 58 = .ok (.iconst 4, 1) := by decide +kernel
theorem dX3_begin_59 : decode cX3_begin 59 = .ok (.if_icmp .ge 16, 3) := by decide +kernel
theorem dX3_begin_62 : decode cX3_begin 62 = .ok (.aload_n 0, 1) := by decide +kernel
theorem dX3_begin_63 : decode cX3_begin 63 = .ok (.getfield 21, 3) := by decide +kernel
theorem dX3_begin_66 : decode cX3_begin 66 = .ok (.iload_n 3, 1) := by decide +kernel
theorem dX3_begin_67 : decode cX3_begin 67 = .ok (.iconst 0, 1) := by decide +kernel
theorem dX3_begin_68 : decode cX3_begin 68 = .ok (.iastore, 1) := by decide +kernel
theorem dX3_begin_69 : decode cX3_begin 69 = .ok (.iinc 3 1, 3) := by decide +kernel
theorem dX3_begin_72 : decode cX3_begin 72 = .ok (.goto (-15), 3) := by decide +kernel
theorem dX3_begin_75 : decode cX3_begin 75 = .ok (.return_, 1) := by decide +kernel
theorem oN_begin : zok yX3_begin 2 := by decide +kernel
theorem dX7_thing_0 : decode cX7_thing 0 = .ok (.aload_n 0, 1) := by decide +kernel
theorem dX7_thing_1 : decode cX7_thing 1 = .ok (.getfield 12, 3) := by decide +kernel
theorem dX7_thing_4 : decode cX7_thing 4 = .ok (.iload_n 1, 1) := by decide +kernel
theorem dX7_thing_5 : decode cX7_thing 5 = .ok (.invokevirtual 81, 3) := by decide +kernel
theorem dX7_thing_8 : decode cX7_thing 8 = .ok (.ifCond .eq 19, 3) := by decide +kernel
theorem dX7_thing_11 : decode cX7_thing 11 = .ok (.iload_n 2, 1) := by decide +kernel
theorem dX7_thing_12 : decode cX7_thing 12 = .ok (.invokestatic 85, 3) := by decide +kernel
theorem dX7_thing_15 : decode cX7_thing 15 = .ok (.ifCond .eq 12, 3) := by decide +kernel
theorem dX7_thing_18 : decode cX7_thing 18 = .ok (.iload_n 3, 1) := by decide +kernel
theorem dX7_thing_19 : decode cX7_thing 19 = .ok (.ifCond .lt 8, 3) := by decide +kernel
theorem dX7_thing_22 : decode cX7_thing 22 = .ok (.iload_n 3, 1) := by decide +kernel
theorem dX7_thing_23 : decode cX7_thing 23 = .ok (.iconst 1, 1) := by decide +kernel
theorem dX7_thing_24 : decode cX7_thing 24 = .ok (.if_icmp .le 5, 3) := by decide +kernel
theorem dX7_thing_27 : decode cX7_thing 27 = .ok (.iconst (-1), 1) := by decide +kernel
theorem dX7_thing_28 : decode cX7_thing 28 = .ok (.ireturn, 1) := by decide +kernel
theorem dX7_thing_29 : decode cX7_thing 29 = .ok (.iload 4, 2) := by decide +kernel
theorem dX7_thing_31 : decode cX7_thing 31 = .ok (.ifCond .lt 19, 3) := by decide +kernel
theorem dX7_thing_34 : decode cX7_thing 34 = .ok (.iload 4, 2) := by decide +kernel
theorem dX7_thing_36 : decode cX7_thing 36 = .ok (.iload_n 3, 1) := by decide +kernel
theorem dX7_thing_37 : decode cX7_thing 37 = .ok (.ifCond .ne 8, 3) := by decide +kernel
theorem dX7_thing_40 : decode cX7_thing 40 = .ok (.bipush 99, 2) := by decide +kernel
theorem dX7_thing_42 : decode cX7_thing 42 = .ok (.goto 5, 3) := by decide +kernel
theorem dX7_thing_45 : decode cX7_thing 45 = .ok (.bipush 9, 2) := by decide +kernel
theorem dX7_thing_47 : decode cX7_thing 47 = .ok (.if_icmp .le 6, 3) := by decide +kernel
theorem dX7_thing_50 : decode cX7_thing 50 = .ok (.bipush (-2), 2) := by decide +kernel
theorem dX7_thing_52 : decode cX7_thing 52 = .ok (.ireturn, 1) := by decide +kernel
theorem dX7_thing_53 : decode cX7_thing 53 = .ok (.iload_n 3, 1) := by decide +kernel
theorem dX7_thing_54 : decode cX7_thing 54 = .ok (.ifCond .ne 18, 3) := by decide +kernel
theorem dX7_thing_57 : decode cX7_thing 57 = .ok (.aload_n 0, 1) := by decide +kernel
theorem dX7_thing_58 : decode cX7_thing 58 = .ok (.getfield 12, 3) := by decide +kernel
theorem dX7_thing_61 : decode cX7_thing 61 = .ok (.getfield 88, 3) := by decide +kernel
theorem dX7_thing_64 : decode cX7_thing 64 = .ok (.iload_n 1, 1) := by decide +kernel
theorem dX7_thing_65 : decode cX7_thing 65 = .ok (.aaload, 1) := by decide +kernel
theorem dX7_thing_66 : decode cX7_thing 66 = .ok (.getfield 92, 3) := by decide +kernel
theorem dX7_thing_69 : decode cX7_thing 69 = .ok (.goto 15, 3) := by decide +kernel
theorem dX7_thing_72 : decode cX7_thing 72 = .ok (.aload_n 0, 1) := by decide +kernel
theorem dX7_thing_73 : decode cX7_thing 73 = .ok (.getfield 12, 3) := by decide +kernel
theorem dX7_thing_76 : decode cX7_thing 76 = .ok (.getfield 88, 3) := by decide +kernel
theorem dX7_thing_79 : decode cX7_thing 79 = .ok (.iload_n 1, 1) := by decide +kernel
theorem dX7_thing_80 : decode cX7_thing 80 = .ok (.aaload, 1) := by decide +kernel
theorem dX7_thing_81 : decode cX7_thing 81 = .ok (.getfield 97, 3) := by decide +kernel
theorem dX7_thing_84 : decode cX7_thing 84 = .ok (.astore 5, 2) := by decide +kernel
theorem dX7_thing_86 : decode cX7_thing 86 = .ok (.aload 5, 2) := by decide +kernel
theorem dX7_thing_88 : decode cX7_thing 88 = .ok (.iload_n 2, 1) := by decide +kernel
theorem dX7_thing_89 : decode cX7_thing 89 = .ok (.iaload, 1) := by decide +kernel
theorem dX7_thing_90 : decode cX7_thing 90 = .ok (.istore 6, 2) := by decide +kernel
theorem dX7_thing_92 : decode cX7_thing 92 = .ok (.aload 5, 2) := by decide +kernel
theorem dX7_thing_94 : decode cX7_thing 94 = .ok (.iload_n 2, 1) := by decide +kernel
theorem dX7_thing_95 : decode cX7_thing 95 = .ok (.iload 4, 2) := by decide +kernel
theorem dX7_thing_97 : decode cX7_thing 97 = .ok (.iastore, 1) := by decide +kernel
theorem dX7_thing_98 : decode cX7_thing 98 = .ok (.iload 6, 2) := by decide +kernel
theorem dX7_thing_100 : decode cX7_thing 100 = .ok (.ireturn, 1) := by decide +kernel
theorem oG_thing : zok yX7_thing 4 := by decide +kernel
theorem dX2_has_0 : decode cX2_has 0 = .ok (.iload_n 1, 1) := by decide +kernel
theorem dX2_has_1 : decode cX2_has 1 = .ok (.ifCond .lt 15, 3) := by decide +kernel
theorem dX2_has_4 : decode cX2_has 4 = .ok (.iload_n 1, 1) := by decide +kernel
theorem dX2_has_5 : decode cX2_has 5 = .ok (.aload_n 0, 1) := by decide +kernel
theorem dX2_has_6 : decode cX2_has 6 = .ok (.getfield 31, 3) := by decide +kernel
theorem dX2_has_9 : decode cX2_has 9 = .ok (.if_icmp .ge 7, 3) := by decide +kernel
theorem dX2_has_12 : decode cX2_has 12 = .ok (.iconst 1, 1) := by decide +kernel
theorem dX2_has_13 : decode cX2_has 13 = .ok (.goto 4, 3) := by decide +kernel
theorem dX2_has_16 : decode cX2_has 16 = .ok (.iconst 0, 1) := by decide +kernel
theorem dX2_has_17 : decode cX2_has 17 = .ok (.ireturn, 1) := by decide +kernel
theorem oP_has : zok yX2_has 1 := by decide +kernel
theorem dX7_isOfThree_0 : decode cX7_isOfThree 0 = .ok (.iload_n 0, 1) := by decide +kernel
theorem dX7_isOfThree_1 : decode cX7_isOfThree 1 = .ok (.ifCond .lt 12, 3) := by decide +kernel
theorem dX7_isOfThree_4 : decode cX7_isOfThree 4 = .ok (.iload_n 0, 1) := by decide +kernel
theorem dX7_isOfThree_5 : decode cX7_isOfThree 5 = .ok (.iconst 3, 1) := by decide +kernel
theorem dX7_isOfThree_6 : decode cX7_isOfThree 6 = .ok (.if_icmp .ge 7, 3) := by decide +kernel
theorem dX7_isOfThree_9 : decode cX7_isOfThree 9 = .ok (.iconst 1, 1) := by decide +kernel
theorem dX7_isOfThree_10 : decode cX7_isOfThree 10 = .ok (.goto 4, 3) := by decide +kernel
theorem dX7_isOfThree_13 : decode cX7_isOfThree 13 = .ok (.iconst 0, 1) := by decide +kernel
theorem dX7_isOfThree_14 : decode cX7_isOfThree 14 = .ok (.ireturn, 1) := by decide +kernel
theorem oG_isOfThree : zok yX7_isOfThree 1 := by decide +kernel
theorem dX7_lie_0 : decode cX7_lie 0 = .ok (.aload_n 0, 1) := by decide +kernel
theorem dX7_lie_1 : decode cX7_lie 1 = .ok (.getfield 12, 3) := by decide +kernel
theorem dX7_lie_4 : decode cX7_lie 4 = .ok (.iload_n 1, 1) := by decide +kernel
theorem dX7_lie_5 : decode cX7_lie 5 = .ok (.invokevirtual 81, 3) := by decide +kernel
theorem dX7_lie_8 : decode cX7_lie 8 = .ok (.ifCond .eq 10, 3) := by decide +kernel
theorem dX7_lie_11 : decode cX7_lie 11 = .ok (.iload_n 2, 1) := by decide +kernel
theorem dX7_lie_12 : decode cX7_lie 12 = .ok (.invokestatic 85, 3) := by decide +kernel
theorem dX7_lie_15 : decode cX7_lie 15 = .ok (.ifCond .ne 5, 3) := by decide +kernel
theorem dX7_lie_18 : decode cX7_lie 18 = .ok (.iconst (-1), 1) := by decide +kernel
theorem dX7_lie_19 : decode cX7_lie 19 = .ok (.ireturn, 1) := by decide +kernel
theorem dX7_lie_20 : decode cX7_lie 20 = .ok (.aload_n 0, 1) := by decide +kernel
theorem dX7_lie_21 : decode cX7_lie 21 = .ok (.getfield 12, 3) := by decide +kernel
theorem dX7_lie_24 : decode cX7_lie 24 = .ok (.getfield 88, 3) := by decide +kernel
theorem dX7_lie_27 : decode cX7_lie 27 = .ok (.iload_n 1, 1) := by decide +kernel
theorem dX7_lie_28 : decode cX7_lie 28 = .ok (.aaload, 1) := by decide +kernel
theorem dX7_lie_29 : decode cX7_lie 29 = .ok (.getfield 100, 3) := by decide +kernel
theorem dX7_lie_32 : decode cX7_lie 32 = .ok (.istore_n 3, 1) := by decide +kernel
theorem dX7_lie_33 : decode cX7_lie 33 = .ok (.aload_n 0, 1) := by decide +kernel
theorem dX7_lie_34 : decode cX7_lie 34 = .ok (.getfield 12, 3) := by decide +kernel
theorem dX7_lie_37 : decode cX7_lie 37 = .ok (.getfield 88, 3) := by decide +kernel
theorem dX7_lie_40 : decode cX7_lie 40 = .ok (.iload_n 1, 1) := by decide +kernel
theorem dX7_lie_41 : decode cX7_lie 41 = .ok (.aaload, 1) := by decide +kernel
theorem dX7_lie_42 : decode cX7_lie 42 = .ok (.iload_n 2, 1) := by decide +kernel
theorem dX7_lie_43 : decode cX7_lie 43 = .ok (.putfield 100, 3) := by decide +kernel
theorem dX7_lie_46 : decode cX7_lie 46 = .ok (.iload_n 3, 1) := by decide +kernel
theorem dX7_lie_47 : decode cX7_lie 47 = .ok (.ireturn, 1) := by decide +kernel
theorem oG_lie : zok yX7_lie 2 := by decide +kernel
theorem dX7_tells_0 : decode cX7_tells 0 = .ok (.aload_n 0, 1) := by decide +kernel
theorem dX7_tells_1 : decode cX7_tells 1 = .ok (.getfield 12, 3) := by decide +kernel
theorem dX7_tells_4 : decode cX7_tells 4 = .ok (.iload_n 1, 1) := by decide +kernel
theorem dX7_tells_5 : decode cX7_tells 5 = .ok (.invokevirtual 81, 3) := by decide +kernel
theorem dX7_tells_8 : decode cX7_tells 8 = .ok (.ifCond .eq 17, 3) := by decide +kernel
theorem dX7_tells_11 : decode cX7_tells 11 = .ok (.iload_n 2, 1) := by decide +kernel
theorem dX7_tells_12 : decode cX7_tells 12 = .ok (.invokestatic 85, 3) := by decide +kernel
theorem dX7_tells_15 : decode cX7_tells 15 = .ok (.ifCond .eq 10, 3) := by decide +kernel
theorem dX7_tells_18 : decode cX7_tells 18 = .ok (.iload_n 3, 1) := by decide +kernel
theorem dX7_tells_19 : decode cX7_tells 19 = .ok (.invokestatic 85, 3) := by decide +kernel
theorem dX7_tells_22 : decode cX7_tells 22 = .ok (.ifCond .ne 5, 3) := by decide +kernel
theorem dX7_tells_25 : decode cX7_tells 25 = .ok (.iconst (-1), 1) := by decide +kernel
theorem dX7_tells_26 : decode cX7_tells 26 = .ok (.ireturn, 1) := by decide +kernel
theorem dX7_tells_27 : decode cX7_tells 27 = .ok (.iload_n 2, 1) := by decide +kernel
theorem dX7_tells_28 : decode cX7_tells 28 = .ok (.iload_n 3, 1) := by decide +kernel
theorem dX7_tells_29 : decode cX7_tells 29 = .ok (.if_icmp .ne 6, 3) := by decide +kernel
theorem dX7_tells_32 : decode cX7_tells 32 = .ok (.bipush (-2), 2) := by decide +kernel
theorem dX7_tells_34 : decode cX7_tells 34 = .ok (.ireturn, 1) := by decide +kernel
theorem dX7_tells_35 : decode cX7_tells 35 = .ok (.aload_n 0, 1) := by decide +kernel
theorem dX7_tells_36 : decode cX7_tells 36 = .ok (.getfield 12, 3) := by decide +kernel
theorem dX7_tells_39 : decode cX7_tells 39 = .ok (.getfield 88, 3) := by decide +kernel
theorem dX7_tells_42 : decode cX7_tells 42 = .ok (.iload_n 1, 1) := by decide +kernel
theorem dX7_tells_43 : decode cX7_tells 43 = .ok (.aaload, 1) := by decide +kernel
theorem dX7_tells_44 : decode cX7_tells 44 = .ok (.iload_n 2, 1) := by decide +kernel
theorem dX7_tells_45 : decode cX7_tells 45 = .ok (.iload_n 3, 1) := by decide +kernel
theorem dX7_tells_46 : decode cX7_tells 46 = .ok (.invokevirtual 103, 3) := by decide +kernel
theorem dX7_tells_49 : decode cX7_tells 49 = .ok (.iconst 1, 1) := by decide +kernel
theorem dX7_tells_50 : decode cX7_tells 50 = .ok (.ireturn, 1) := by decide +kernel
theorem oG_tells : zok yX7_tells 3 := by decide +kernel
theorem dX3_setOrder_0 : decode cX3_setOrder 0 = .ok (.aload_n 0, 1) := by decide +kernel
theorem dX3_setOrder_1 : decode cX3_setOrder 1 = .ok (.getfield 18, 3) := by decide +kernel
theorem dX3_setOrder_4 : decode cX3_setOrder 4 = .ok (.iconst 0, 1) := by decide +kernel
theorem dX3_setOrder_5 : decode cX3_setOrder 5 = .ok (.iload_n 1, 1) := by decide +kernel
theorem dX3_setOrder_6 : decode cX3_setOrder 6 = .ok (.iastore, 1) := by decide +kernel
theorem dX3_setOrder_7 : decode cX3_setOrder 7 = .ok (.aload_n 0, 1) := by decide +kernel
theorem dX3_setOrder_8 : decode cX3_setOrder 8 = .ok (.getfield 18, 3) := by decide +kernel
theorem dX3_setOrder_11 : decode cX3_setOrder 11 = .ok (.iconst 1, 1) := by decide +kernel
theorem dX3_setOrder_12 : decode cX3_setOrder 12 = .ok (.iload_n 2, 1) := by decide +kernel
theorem dX3_setOrder_13 : decode cX3_setOrder 13 = .ok (.iastore, 1) := by decide +kernel
theorem dX3_setOrder_14 : decode cX3_setOrder 14 = .ok (.aload_n 0, 1) := by decide +kernel
theorem dX3_setOrder_15 : decode cX3_setOrder 15 = .ok (.getfield 18, 3) := by decide +kernel
theorem dX3_setOrder_18 : decode cX3_setOrder 18 = .ok (.iconst 2, 1) := by decide +kernel
theorem dX3_setOrder_19 : decode cX3_setOrder 19 = .ok (.iconst 3, 1) := by decide +kernel
theorem dX3_setOrder_20 : decode cX3_setOrder 20 = .ok (.iload_n 1, 1) := by decide +kernel
theorem dX3_setOrder_21 : decode cX3_setOrder 21 = .ok (.isub, 1) := by decide +kernel
theorem dX3_setOrder_22 : decode cX3_setOrder 22 = .ok (.iload_n 2, 1) := by decide +kernel
theorem dX3_setOrder_23 : decode cX3_setOrder 23 = .ok (.isub, 1) := by decide +kernel
theorem dX3_setOrder_24 : decode cX3_setOrder 24 = .ok (.iastore, 1) := by decide +kernel
theorem dX3_setOrder_25 : decode cX3_setOrder 25 = .ok (.return_, 1) := by decide +kernel
theorem oN_setOrder : zok yX3_setOrder 2 := by decide +kernel
theorem dX7_of_0 : decode cX7_of 0 = .ok (.aload_n 0, 1) := by decide +kernel
theorem dX7_of_1 : decode cX7_of 1 = .ok (.getfield 12, 3) := by decide +kernel
theorem dX7_of_4 : decode cX7_of 4 = .ok (.iload_n 1, 1) := by decide +kernel
theorem dX7_of_5 : decode cX7_of 5 = .ok (.invokevirtual 81, 3) := by decide +kernel
theorem dX7_of_8 : decode cX7_of 8 = .ok (.ifCond .eq 19, 3) := by decide +kernel
theorem dX7_of_11 : decode cX7_of 11 = .ok (.aload_n 0, 1) := by decide +kernel
theorem dX7_of_12 : decode cX7_of 12 = .ok (.getfield 12, 3) := by decide +kernel
theorem dX7_of_15 : decode cX7_of 15 = .ok (.getfield 88, 3) := by decide +kernel
theorem dX7_of_18 : decode cX7_of 18 = .ok (.iload_n 1, 1) := by decide +kernel
theorem dX7_of_19 : decode cX7_of 19 = .ok (.aaload, 1) := by decide +kernel
theorem dX7_of_20 : decode cX7_of 20 = .ok (.iload_n 2, 1) := by decide +kernel
theorem dX7_of_21 : decode cX7_of 21 = .ok (.invokevirtual 107, 3) := by decide +kernel
theorem dX7_of_24 : decode cX7_of 24 = .ok (.goto 4, 3) := by decide +kernel
theorem dX7_of_27 : decode cX7_of 27 = .ok (.iconst (-1), 1) := by decide +kernel
theorem dX7_of_28 : decode cX7_of 28 = .ok (.ireturn, 1) := by decide +kernel
theorem oG_of : zok yX7_of 2 := by decide +kernel
theorem dX3_known_0 : decode cX3_known 0 = .ok (.iload_n 1, 1) := by decide +kernel
theorem dX3_known_1 : decode cX3_known 1 = .ok (.tableswitch 51 0 3 #[31, 36, 41, 46], 31) := by decide +kernel
theorem dX3_known_32 : decode cX3_known 32 = .ok (.aload_n 0, 1) := by decide +kernel
theorem dX3_known_33 : decode cX3_known 33 = .ok (.getfield 28, 3) := by decide +kernel
theorem dX3_known_36 : decode cX3_known 36 = .ok (.ireturn, 1) := by decide +kernel
theorem dX3_known_37 : decode cX3_known 37 = .ok (.aload_n 0, 1) := by decide +kernel
theorem dX3_known_38 : decode cX3_known 38 = .ok (.getfield 31, 3) := by decide +kernel
theorem dX3_known_41 : decode cX3_known 41 = .ok (.ireturn, 1) := by decide +kernel
theorem dX3_known_42 : decode cX3_known 42 = .ok (.aload_n 0, 1) := by decide +kernel
theorem dX3_known_43 : decode cX3_known 43 = .ok (.getfield 34, 3) := by decide +kernel
theorem dX3_known_46 : decode cX3_known 46 = .ok (.ireturn, 1) := by decide +kernel
theorem dX3_known_47 : decode cX3_known 47 = .ok (.aload_n 0, 1) := by decide +kernel
theorem dX3_known_48 : decode cX3_known 48 = .ok (.getfield 37, 3) := by decide +kernel
theorem dX3_known_51 : decode cX3_known 51 = .ok (.ireturn, 1) := by decide +kernel
theorem dX3_known_52 : decode cX3_known 52 = .ok (.iload_n 1, 1) := by decide +kernel
theorem dX3_known_53 : decode cX3_known 53 = .ok (.bipush 10, 2) := by decide +kernel
theorem dX3_known_55 : decode cX3_known 55 = .ok (.isub, 1) := by decide +kernel
theorem dX3_known_56 : decode cX3_known 56 = .ok (.invokestatic 46, 3) := by decide +kernel
theorem dX3_known_59 : decode cX3_known 59 = .ok (.ifCond .eq 13, 3) := by decide +kernel
theorem dX3_known_62 : decode cX3_known 62 = .ok (.aload_n 0, 1) := by decide +kernel
theorem dX3_known_63 : decode cX3_known 63 = .ok (.getfield 18, 3) := by decide +kernel
theorem dX3_known_66 : decode cX3_known 66 = .ok (.iload_n 1, 1) := by decide +kernel
theorem dX3_known_67 : decode cX3_known 67 = .ok (.bipush 10, 2) := by decide +kernel
theorem dX3_known_69 : decode cX3_known 69 = .ok (.isub, 1) := by decide +kernel
theorem dX3_known_70 : decode cX3_known 70 = .ok (.iaload, 1) := by decide +kernel
theorem dX3_known_71 : decode cX3_known 71 = .ok (.ireturn, 1) := by decide +kernel
theorem dX3_known_72 : decode cX3_known 72 = .ok (.iload_n 1, 1) := by decide +kernel
theorem dX3_known_73 : decode cX3_known 73 = .ok (.bipush 20, 2) := by decide +kernel
theorem dX3_known_75 : decode cX3_known 75 = .ok (.isub, 1) := by decide +kernel
theorem dX3_known_76 : decode cX3_known 76 = .ok (.invokestatic 46, 3) := by decide +kernel
theorem dX3_known_79 : decode cX3_known 79 = .ok (.ifCond .eq 13, 3) := by decide +kernel
theorem dX3_known_82 : decode cX3_known 82 = .ok (.aload_n 0, 1) := by decide +kernel
theorem dX3_known_83 : decode cX3_known 83 = .ok (.getfield 9, 3) := by decide +kernel
theorem dX3_known_86 : decode cX3_known 86 = .ok (.iload_n 1, 1) := by decide +kernel
theorem dX3_known_87 : decode cX3_known 87 = .ok (.bipush 20, 2) := by decide +kernel
theorem dX3_known_89 : decode cX3_known 89 = .ok (.isub, 1) := by decide +kernel
theorem dX3_known_90 : decode cX3_known 90 = .ok (.iaload, 1) := by decide +kernel
theorem dX3_known_91 : decode cX3_known 91 = .ok (.ireturn, 1) := by decide +kernel
theorem dX3_known_92 : decode cX3_known 92 = .ok (.iload_n 1, 1) := by decide +kernel
theorem dX3_known_93 : decode cX3_known 93 = .ok (.bipush 30, 2) := by decide +kernel
theorem dX3_known_95 : decode cX3_known 95 = .ok (.isub, 1) := by decide +kernel
theorem dX3_known_96 : decode cX3_known 96 = .ok (.invokestatic 46, 3) := by decide +kernel
theorem dX3_known_99 : decode cX3_known 99 = .ok (.ifCond .eq 15, 3) := by decide +kernel
theorem dX3_known_102 : decode cX3_known 102 = .ok (.aload_n 0, 1) := by decide +kernel
theorem dX3_known_103 : decode cX3_known 103 = .ok (.getfield 15, 3) := by decide +kernel
theorem dX3_known_106 : decode cX3_known 106 = .ok (.iload_n 1, 1) := by decide +kernel
theorem dX3_known_107 : decode cX3_known 107 = .ok (.bipush 30, 2) := by decide +kernel
theorem dX3_known_109 : decode cX3_known 109 = .ok (.isub, 1) := by decide +kernel
theorem dX3_known_110 : decode cX3_known 110 = .ok (.iaload, 1) := by decide +kernel
theorem dX3_known_111 : decode cX3_known 111 = .ok (.goto 4, 3) := by decide +kernel
theorem dX3_known_114 : decode cX3_known 114 = .ok (.iconst (-1), 1) := by decide +kernel
theorem dX3_known_115 : decode cX3_known 115 = .ok (.ireturn, 1) := by decide +kernel
theorem oN_known : zok yX3_known 1 := by decide +kernel
theorem dX7_row_0 : decode cX7_row 0 = .ok (.aload_n 0, 1) := by decide +kernel
theorem dX7_row_1 : decode cX7_row 1 = .ok (.getfield 12, 3) := by decide +kernel
theorem dX7_row_4 : decode cX7_row 4 = .ok (.iload_n 1, 1) := by decide +kernel
theorem dX7_row_5 : decode cX7_row 5 = .ok (.invokevirtual 81, 3) := by decide +kernel
theorem dX7_row_8 : decode cX7_row 8 = .ok (.ifCond .eq 12, 3) := by decide +kernel
theorem dX7_row_11 : decode cX7_row 11 = .ok (.iload_n 2, 1) := by decide +kernel
theorem dX7_row_12 : decode cX7_row 12 = .ok (.ifCond .lt 8, 3) := by decide +kernel
theorem dX7_row_15 : decode cX7_row 15 = .ok (.iload_n 2, 1) := by decide +kernel
theorem dX7_row_16 : decode cX7_row 16 = .ok (.iconst 4, 1) := by decide +kernel
theorem dX7_row_17 : decode cX7_row 17 = .ok (.if_icmp .lt 5, 3) := by decide +kernel
theorem dX7_row_20 : decode cX7_row 20 = .ok (.iconst (-1), 1) := by decide +kernel
theorem dX7_row_21 : decode cX7_row 21 = .ok (.ireturn, 1) := by decide +kernel
theorem dX7_row_22 : decode cX7_row 22 = .ok (.iload_n 3, 1) := by decide +kernel
theorem dX7_row_23 : decode cX7_row 23 = .ok (.invokestatic 85, 3) := by decide +kernel
theorem dX7_row_26 : decode cX7_row 26 = .ok (.ifCond .ne 6, 3) := by decide +kernel
theorem dX7_row_29 : decode cX7_row 29 = .ok (.bipush (-2), 2) := by decide +kernel
theorem dX7_row_31 : decode cX7_row 31 = .ok (.ireturn, 1) := by decide +kernel
theorem dX7_row_32 : decode cX7_row 32 = .ok (.aload_n 0, 1) := by decide +kernel
theorem dX7_row_33 : decode cX7_row 33 = .ok (.getfield 12, 3) := by decide +kernel
theorem dX7_row_36 : decode cX7_row 36 = .ok (.getfield 88, 3) := by decide +kernel
theorem dX7_row_39 : decode cX7_row 39 = .ok (.iload_n 1, 1) := by decide +kernel
theorem dX7_row_40 : decode cX7_row 40 = .ok (.aaload, 1) := by decide +kernel
theorem dX7_row_41 : decode cX7_row 41 = .ok (.astore 4, 2) := by decide +kernel
theorem dX7_row_43 : decode cX7_row 43 = .ok (.aload 4, 2) := by decide +kernel
theorem dX7_row_45 : decode cX7_row 45 = .ok (.getfield 111, 3) := by decide +kernel
theorem dX7_row_48 : decode cX7_row 48 = .ok (.bipush 6, 2) := by decide +kernel
theorem dX7_row_50 : decode cX7_row 50 = .ok (.if_icmp .eq 6, 3) := by decide +kernel
theorem dX7_row_53 : decode cX7_row 53 = .ok (.bipush (-3), 2) := by decide +kernel
theorem dX7_row_55 : decode cX7_row 55 = .ok (.ireturn, 1) := by decide +kernel
theorem dX7_row_56 : decode cX7_row 56 = .ok (.aload 4, 2) := by decide +kernel
theorem dX7_row_58 : decode cX7_row 58 = .ok (.getfield 114, 3) := by decide +kernel
theorem dX7_row_61 : decode cX7_row 61 = .ok (.iload_n 2, 1) := by decide +kernel
theorem dX7_row_62 : decode cX7_row 62 = .ok (.iaload, 1) := by decide +kernel
theorem dX7_row_63 : decode cX7_row 63 = .ok (.istore 5, 2) := by decide +kernel
theorem dX7_row_65 : decode cX7_row 65 = .ok (.aload 4, 2) := by decide +kernel
theorem dX7_row_67 : decode cX7_row 67 = .ok (.getfield 114, 3) := by decide +kernel
theorem dX7_row_70 : decode cX7_row 70 = .ok (.iload_n 2, 1) := by decide +kernel
theorem dX7_row_71 : decode cX7_row 71 = .ok (.iload_n 3, 1) := by decide +kernel
theorem dX7_row_72 : decode cX7_row 72 = .ok (.iastore, 1) := by decide +kernel
theorem dX7_row_73 : decode cX7_row 73 = .ok (.iload 5, 2) := by decide +kernel
theorem dX7_row_75 : decode cX7_row 75 = .ok (.ireturn, 1) := by decide +kernel
theorem oG_row : zok yX7_row 3 := by decide +kernel
theorem dX7_feed_0 : decode cX7_feed 0 = .ok (.iload_n 1, 1) := by decide +kernel
theorem dX7_feed_1 : decode cX7_feed 1 = .ok (.ifCond .lt 9, 3) := by decide +kernel
theorem dX7_feed_4 : decode cX7_feed 4 = .ok (.iload_n 1, 1) := by decide +kernel
theorem dX7_feed_5 : decode cX7_feed 5 = .ok (.bipush 127, 2) := by decide +kernel
theorem dX7_feed_7 : decode cX7_feed 7 = .ok (.if_icmp .le 6, 3) := by decide +kernel
theorem dX7_feed_10 : decode cX7_feed 10 = .ok (.bipush (-2), 2) := by decide +kernel
theorem dX7_feed_12 : decode cX7_feed 12 = .ok (.ireturn, 1) := by decide +kernel
theorem dX7_feed_13 : decode cX7_feed 13 = .ok (.aload_n 0, 1) := by decide +kernel
theorem dX7_feed_14 : decode cX7_feed 14 = .ok (.getfield 27, 3) := by decide +kernel
theorem dX7_feed_17 : decode cX7_feed 17 = .ok (.getfield 117, 3) := by decide +kernel
theorem dX7_feed_20 : decode cX7_feed 20 = .ok (.bipush 100, 2) := by decide +kernel
theorem dX7_feed_22 : decode cX7_feed 22 = .ok (.if_icmp .lt 8, 3) := by decide +kernel
theorem dX7_feed_25 : decode cX7_feed 25 = .ok (.bipush (-4), 2) := by decide +kernel
theorem dX7_feed_27 : decode cX7_feed 27 = .ok (.goto 11, 3) := by decide +kernel
theorem dX7_feed_30 : decode cX7_feed 30 = .ok (.aload_n 0, 1) := by decide +kernel
theorem dX7_feed_31 : decode cX7_feed 31 = .ok (.getfield 27, 3) := by decide +kernel
theorem dX7_feed_34 : decode cX7_feed 34 = .ok (.iload_n 1, 1) := by decide +kernel
theorem dX7_feed_35 : decode cX7_feed 35 = .ok (.invokevirtual 120, 3) := by decide +kernel
theorem dX7_feed_38 : decode cX7_feed 38 = .ok (.ireturn, 1) := by decide +kernel
theorem oG_feed : zok yX7_feed 1 := by decide +kernel
theorem dX6_append_0 : decode cX6_append 0 = .ok (.aload_n 0, 1) := by decide +kernel
theorem dX6_append_1 : decode cX6_append 1 = .ok (.getfield 9, 3) := by decide +kernel
theorem dX6_append_4 : decode cX6_append 4 = .ok (.aload_n 0, 1) := by decide +kernel
theorem dX6_append_5 : decode cX6_append 5 = .ok (.getfield 15, 3) := by decide +kernel
theorem dX6_append_8 : decode cX6_append 8 = .ok (.iload_n 1, 1) := by decide +kernel
theorem dX6_append_9 : decode cX6_append 9 = .ok (.iastore, 1) := by decide +kernel
theorem dX6_append_10 : decode cX6_append 10 = .ok (.aload_n 0, 1) := by decide +kernel
theorem dX6_append_11 : decode cX6_append 11 = .ok (.dup, 1) := by decide +kernel
theorem dX6_append_12 : decode cX6_append 12 = .ok (.getfield 15, 3) := by decide +kernel
theorem dX6_append_15 : decode cX6_append 15 = .ok (.iconst 1, 1) := by decide +kernel
theorem dX6_append_16 : decode cX6_append 16 = .ok (.iadd, 1) := by decide +kernel
theorem dX6_append_17 : decode cX6_append 17 = .ok (.putfield 15, 3) := by decide +kernel
theorem dX6_append_20 : decode cX6_append 20 = .ok (.aload_n 0, 1) := by decide +kernel
theorem dX6_append_21 : decode cX6_append 21 = .ok (.getfield 15, 3) := by decide +kernel
theorem dX6_append_24 : decode cX6_append 24 = .ok (.ireturn, 1) := by decide +kernel
theorem oT_append : zok yX6_append 1 := by decide +kernel
theorem dX7_evening_0 : decode cX7_evening 0 = .ok (.aload_n 0, 1) := by decide +kernel
theorem dX7_evening_1 : decode cX7_evening 1 = .ok (.getfield 123, 3) := by decide +kernel
theorem dX7_evening_4 : decode cX7_evening 4 = .ok (.bipush 6, 2) := by decide +kernel
theorem dX7_evening_6 : decode cX7_evening 6 = .ok (.if_icmp .lt 6, 3) := by decide +kernel
theorem dX7_evening_9 : decode cX7_evening 9 = .ok (.bipush (-4), 2) := by decide +kernel
theorem dX7_evening_11 : decode cX7_evening 11 = .ok (.ireturn, 1) := by decide +kernel
theorem dX7_evening_12 : decode cX7_evening 12 = .ok (.aload_n 0, 1) := by decide +kernel
theorem dX7_evening_13 : decode cX7_evening 13 = .ok (.getfield 27, 3) := by decide +kernel
theorem dX7_evening_16 : decode cX7_evening 16 = .ok (.aload_n 0, 1) := by decide +kernel
theorem dX7_evening_17 : decode cX7_evening 17 = .ok (.getfield 33, 3) := by decide +kernel
theorem dX7_evening_20 : decode cX7_evening 20 = .ok (.aload_n 0, 1) := by decide +kernel
theorem dX7_evening_21 : decode cX7_evening 21 = .ok (.getfield 123, 3) := by decide +kernel
theorem dX7_evening_24 : decode cX7_evening 24 = .ok (.aaload, 1) := by decide +kernel
theorem dX7_evening_25 : decode cX7_evening 25 = .ok (.invokevirtual 126, 3) := by decide +kernel
theorem dX7_evening_28 : decode cX7_evening 28 = .ok (.istore_n 1, 1) := by decide +kernel
theorem dX7_evening_29 : decode cX7_evening 29 = .ok (.aload_n 0, 1) := by decide +kernel
theorem dX7_evening_30 : decode cX7_evening 30 = .ok (.getfield 27, 3) := by decide +kernel
theorem dX7_evening_33 : decode cX7_evening 33 = .ok (.iconst 0, 1) := by decide +kernel
theorem dX7_evening_34 : decode cX7_evening 34 = .ok (.putfield 117, 3) := by decide +kernel
theorem dX7_evening_37 : decode cX7_evening 37 = .ok (.iload_n 1, 1) := by decide +kernel
theorem dX7_evening_38 : decode cX7_evening 38 = .ok (.ifCond .lt 8, 3) := by decide +kernel
theorem dX7_evening_41 : decode cX7_evening 41 = .ok (.bipush (-10), 2) := by decide +kernel
theorem dX7_evening_43 : decode cX7_evening 43 = .ok (.iload_n 1, 1) := by decide +kernel
theorem dX7_evening_44 : decode cX7_evening 44 = .ok (.isub, 1) := by decide +kernel
theorem dX7_evening_45 : decode cX7_evening 45 = .ok (.ireturn, 1) := by decide +kernel
theorem dX7_evening_46 : decode cX7_evening 46 = .ok (.aload_n 0, 1) := by decide +kernel
theorem dX7_evening_47 : decode cX7_evening 47 = .ok (.getfield 12, 3) := by decide +kernel
theorem dX7_evening_50 : decode cX7_evening 50 = .ok (.aload_n 0, 1) := by decide +kernel
theorem dX7_evening_51 : decode cX7_evening 51 = .ok (.getfield 123, 3) := by decide +kernel
theorem dX7_evening_54 : decode cX7_evening 54 = .ok (.putfield 130, 3) := by decide +kernel
theorem dX7_evening_57 : decode cX7_evening 57 = .ok (.aload_n 0, 1) := by decide +kernel
theorem dX7_evening_58 : decode cX7_evening 58 = .ok (.dup, 1) := by decide +kernel
theorem dX7_evening_59 : decode cX7_evening 59 = .ok (.getfield 123, 3) := by decide +kernel
theorem dX7_evening_62 : decode cX7_evening 62 = .ok (.iconst 1, 1) := by decide +kernel
theorem dX7_evening_63 : decode cX7_evening 63 = .ok (.iadd, 1) := by decide +kernel
theorem dX7_evening_64 : decode cX7_evening 64 = .ok (.putfield 123, 3) := by decide +kernel
theorem dX7_evening_67 : decode cX7_evening 67 = .ok (.aload_n 0, 1) := by decide +kernel
theorem dX7_evening_68 : decode cX7_evening 68 = .ok (.getfield 12, 3) := by decide +kernel
theorem dX7_evening_71 : decode cX7_evening 71 = .ok (.getfield 130, 3) := by decide +kernel
theorem dX7_evening_74 : decode cX7_evening 74 = .ok (.ireturn, 1) := by decide +kernel
theorem oG_evening : zok yX7_evening 0 := by decide +kernel
theorem dX6_readInto_0 : decode cX6_readInto 0 = .ok (.aload_n 1, 1) := by decide +kernel
theorem dX6_readInto_1 : decode cX6_readInto 1 = .ok (.invokevirtual 19, 3) := by decide +kernel
theorem dX6_readInto_4 : decode cX6_readInto 4 = .ok (.aload_n 0, 1) := by decide +kernel
theorem dX6_readInto_5 : decode cX6_readInto 5 = .ok (.iconst 0, 1) := by decide +kernel
theorem dX6_readInto_6 : decode cX6_readInto 6 = .ok (.putfield 24, 3) := by decide +kernel
theorem dX6_readInto_9 : decode cX6_readInto 9 = .ok (.aload_n 0, 1) := by decide +kernel
theorem dX6_readInto_10 : decode cX6_readInto 10 = .ok (.aload_n 1, 1) := by decide +kernel
theorem dX6_readInto_11 : decode cX6_readInto 11 = .ok (.invokevirtual 27, 3) := by decide +kernel
theorem dX6_readInto_14 : decode cX6_readInto 14 = .ok (.istore_n 2, 1) := by decide +kernel
theorem dX6_readInto_15 : decode cX6_readInto 15 = .ok (.iconst 1, 1) := by decide +kernel
theorem dX6_readInto_16 : decode cX6_readInto 16 = .ok (.istore_n 3, 1) := by decide +kernel
theorem dX6_readInto_17 : decode cX6_readInto 17 = .ok (.iload_n 2, 1) := by decide +kernel
theorem dX6_readInto_18 : decode cX6_readInto 18 = .ok (.ifCond .eq 30, 3) := by decide +kernel
theorem dX6_readInto_21 : decode cX6_readInto 21 = .ok (.iload_n 3, 1) := by decide +kernel
theorem dX6_readInto_22 : decode cX6_readInto 22 = .ok (.bipush 10, 2) := by decide +kernel
theorem dX6_readInto_24 : decode cX6_readInto 24 = .ok (.if_icmp .ge 24, 3) := by decide +kernel
theorem dX6_readInto_27 : decode cX6_readInto 27 = .ok (.aload_n 0, 1) := by decide +kernel
theorem dX6_readInto_28 : decode cX6_readInto 28 = .ok (.bipush 59, 2) := by decide +kernel
theorem dX6_readInto_30 : decode cX6_readInto 30 = .ok (.invokevirtual 31, 3) := by decide +kernel
theorem dX6_readInto_33 : decode cX6_readInto 33 = .ok (.ifCond .eq 15, 3) := by decide +kernel
theorem dX6_readInto_36 : decode cX6_readInto 36 = .ok (.aload_n 0, 1) := by decide +kernel
theorem dX6_readInto_37 : decode cX6_readInto 37 = .ok (.aload_n 1, 1) := by decide +kernel
theorem dX6_readInto_38 : decode cX6_readInto 38 = .ok (.invokevirtual 27, 3) := by decide +kernel
theorem dX6_readInto_41 : decode cX6_readInto 41 = .ok (.istore_n 2, 1) := by decide +kernel
theorem dX6_readInto_42 : decode cX6_readInto 42 = .ok (.iinc 3 1, 3) := by decide +kernel
theorem dX6_readInto_45 : decode cX6_readInto 45 = .ok (.goto (-28), 3) := by decide +kernel
theorem dX6_readInto_48 : decode cX6_readInto 48 = .ok (.iload_n 2, 1) := by decide +kernel
theorem dX6_readInto_49 : decode cX6_readInto 49 = .ok (.ifCond .eq 18, 3) := by decide +kernel
theorem dX6_readInto_52 : decode cX6_readInto 52 = .ok (.aload_n 0, 1) := by decide +kernel
theorem dX6_readInto_53 : decode cX6_readInto 53 = .ok (.getfield 24, 3) := by decide +kernel
theorem dX6_readInto_56 : decode cX6_readInto 56 = .ok (.aload_n 0, 1) := by decide +kernel
theorem dX6_readInto_57 : decode cX6_readInto 57 = .ok (.getfield 15, 3) := by decide +kernel
theorem dX6_readInto_60 : decode cX6_readInto 60 = .ok (.if_icmp .ne 7, 3) := by decide +kernel
theorem dX6_readInto_63 : decode cX6_readInto 63 = .ok (.iconst (-1), 1) := by decide +kernel
theorem dX6_readInto_64 : decode cX6_readInto 64 = .ok (.goto 7, 3) := by decide +kernel
theorem dX6_readInto_67 : decode cX6_readInto 67 = .ok (.aload_n 0, 1) := by decide +kernel
theorem dX6_readInto_68 : decode cX6_readInto 68 = .ok (.getfield 24, 3) := by decide +kernel
theorem dX6_readInto_71 : decode cX6_readInto 71 = .ok (.ireturn, 1) := by decide +kernel
theorem oT_readInto : zok yX6_readInto 1 := by decide +kernel
theorem dX1_clear_0 : decode cX1_clear 0 = .ok (.aload_n 0, 1) := by decide +kernel
theorem dX1_clear_1 : decode cX1_clear 1 = .ok (.iconst 0, 1) := by decide +kernel
theorem dX1_clear_2 : decode cX1_clear 2 = .ok (.putfield 22, 3) := by decide +kernel
theorem dX1_clear_5 : decode cX1_clear 5 = .ok (.aload_n 0, 1) := by decide +kernel
theorem dX1_clear_6 : decode cX1_clear 6 = .ok (.bipush 10, 2) := by decide +kernel
theorem dX1_clear_8 : decode cX1_clear 8 = .ok (.putfield 18, 3) := by decide +kernel
theorem dX1_clear_11 : decode cX1_clear 11 = .ok (.return_, 1) := by decide +kernel
theorem oE_clear : zok yX1_clear 0 := by decide +kernel
theorem dX6_readClause_0 : decode cX6_readClause 0 = .ok (.aload_n 0, 1) := by decide +kernel
theorem dX6_readClause_1 : decode cX6_readClause 1 = .ok (.bipush 104, 2) := by decide +kernel
theorem dX6_readClause_3 : decode cX6_readClause 3 = .ok (.invokevirtual 35, 3) := by decide +kernel
theorem dX6_readClause_6 : decode cX6_readClause 6 = .ok (.ifCond .eq 31, 3) := by decide +kernel
theorem dX6_readClause_9 : decode cX6_readClause 9 = .ok (.aload_n 0, 1) := by decide +kernel
theorem dX6_readClause_10 : decode cX6_readClause 10 = .ok (.ldc 38, 2) := by decide +kernel
theorem dX6_readClause_12 : decode cX6_readClause 12 = .ok (.invokevirtual 40, 3) := by decide +kernel
theorem dX6_readClause_15 : decode cX6_readClause 15 = .ok (.ifCond .eq 10, 3) := by decide +kernel
theorem dX6_readClause_18 : decode cX6_readClause 18 = .ok (.aload_n 0, 1) := by decide +kernel
theorem dX6_readClause_19 : decode cX6_readClause 19 = .ok (.invokevirtual 44, 3) := by decide +kernel
theorem dX6_readClause_22 : decode cX6_readClause 22 = .ok (.ifCond .ne 5, 3) := by decide +kernel
theorem dX6_readClause_25 : decode cX6_readClause 25 = .ok (.iconst 0, 1) := by decide +kernel
theorem dX6_readClause_26 : decode cX6_readClause 26 = .ok (.ireturn, 1) := by decide +kernel
theorem dX6_readClause_27 : decode cX6_readClause 27 = .ok (.aload_n 1, 1) := by decide +kernel
theorem dX6_readClause_28 : decode cX6_readClause 28 = .ok (.aload_n 0, 1) := by decide +kernel
theorem dX6_readClause_29 : decode cX6_readClause 29 = .ok (.getfield 48, 3) := by decide +kernel
theorem dX6_readClause_32 : decode cX6_readClause 32 = .ok (.putfield 51, 3) := by decide +kernel
theorem dX6_readClause_35 : decode cX6_readClause 35 = .ok (.iconst 1, 1) := by decide +kernel
theorem dX6_readClause_36 : decode cX6_readClause 36 = .ok (.ireturn, 1) := by decide +kernel
theorem dX6_readClause_37 : decode cX6_readClause 37 = .ok (.aload_n 0, 1) := by decide +kernel
theorem dX6_readClause_38 : decode cX6_readClause 38 = .ok (.bipush 111, 2) := by decide +kernel
theorem dX6_readClause_40 : decode cX6_readClause 40 = .ok (.invokevirtual 35, 3) := by decide +kernel
theorem dX6_readClause_43 : decode cX6_readClause 43 = .ok (.istore_n 2, 1) := by decide +kernel
theorem dX6_readClause_44 : decode cX6_readClause 44 = .ok (.aload_n 0, 1) := by decide +kernel
theorem dX6_readClause_45 : decode cX6_readClause 45 = .ok (.iload_n 2, 1) := by decide +kernel
theorem dX6_readClause_46 : decode cX6_readClause 46 = .ok (.ifCond .eq 8, 3) := by decide +kernel
theorem dX6_readClause_49 : decode cX6_readClause 49 = .ok (.ldc 54, 2) := by decide +kernel
theorem dX6_readClause_51 : decode cX6_readClause 51 = .ok (.goto 5, 3) := by decide +kernel
theorem dX6_readClause_54 : decode cX6_readClause 54 = .ok (.ldc 56, 2) := by decide +kernel
theorem dX6_readClause_56 : decode cX6_readClause 56 = .ok (.invokevirtual 40, 3) := by decide +kernel
theorem dX6_readClause_59 : decode cX6_readClause 59 = .ok (.ifCond .eq 10, 3) := by decide +kernel
theorem dX6_readClause_62 : decode cX6_readClause 62 = .ok (.aload_n 0, 1) := by decide +kernel
theorem dX6_readClause_63 : decode cX6_readClause 63 = .ok (.invokevirtual 44, 3) := by decide +kernel
theorem dX6_readClause_66 : decode cX6_readClause 66 = .ok (.ifCond .ne 5, 3) := by decide +kernel
theorem dX6_readClause_69 : decode cX6_readClause 69 = .ok (.iconst 0, 1) := by decide +kernel
theorem dX6_readClause_70 : decode cX6_readClause 70 = .ok (.ireturn, 1) := by decide +kernel
theorem dX6_readClause_71 : decode cX6_readClause 71 = .ok (.aload_n 0, 1) := by decide +kernel
theorem dX6_readClause_72 : decode cX6_readClause 72 = .ok (.getfield 48, 3) := by decide +kernel
theorem dX6_readClause_75 : decode cX6_readClause 75 = .ok (.istore_n 3, 1) := by decide +kernel
theorem dX6_readClause_76 : decode cX6_readClause 76 = .ok (.aload_n 0, 1) := by decide +kernel
theorem dX6_readClause_77 : decode cX6_readClause 77 = .ok (.bipush 32, 2) := by decide +kernel
theorem dX6_readClause_79 : decode cX6_readClause 79 = .ok (.invokevirtual 31, 3) := by decide +kernel
theorem dX6_readClause_82 : decode cX6_readClause 82 = .ok (.ifCond .eq 12, 3) := by decide +kernel
theorem dX6_readClause_85 : decode cX6_readClause 85 = .ok (.aload_n 0, 1) := by decide +kernel
theorem dX6_readClause_86 : decode cX6_readClause 86 = .ok (.aload_n 1, 1) := by decide +kernel
theorem dX6_readClause_87 : decode cX6_readClause 87 = .ok (.iconst 0, 1) := by decide +kernel
theorem dX6_readClause_88 : decode cX6_readClause 88 = .ok (.invokevirtual 58, 3) := by decide +kernel
theorem dX6_readClause_91 : decode cX6_readClause 91 = .ok (.ifCond .ne 5, 3) := by decide +kernel
theorem dX6_readClause_94 : decode cX6_readClause 94 = .ok (.iconst 0, 1) := by decide +kernel
theorem dX6_readClause_95 : decode cX6_readClause 95 = .ok (.ireturn, 1) := by decide +kernel
theorem dX6_readClause_96 : decode cX6_readClause 96 = .ok (.aload_n 1, 1) := by decide +kernel
theorem dX6_readClause_97 : decode cX6_readClause 97 = .ok (.iload_n 2, 1) := by decide +kernel
theorem dX6_readClause_98 : decode cX6_readClause 98 = .ok (.ifCond .eq 8, 3) := by decide +kernel
theorem dX6_readClause_101 : decode cX6_readClause 101 = .ok (.bipush 6, 2) := by decide +kernel
theorem dX6_readClause_103 : decode cX6_readClause 103 = .ok (.goto 5, 3) := by decide +kernel
theorem dX6_readClause_106 : decode cX6_readClause 106 = .ok (.bipush 7, 2) := by decide +kernel
theorem dX6_readClause_108 : decode cX6_readClause 108 = .ok (.iconst 0, 1) := by decide +kernel
theorem dX6_readClause_109 : decode cX6_readClause 109 = .ok (.iload_n 3, 1) := by decide +kernel
theorem dX6_readClause_110 : decode cX6_readClause 110 = .ok (.invokevirtual 62, 3) := by decide +kernel
theorem dX6_readClause_113 : decode cX6_readClause 113 = .ok (.iconst 1, 1) := by decide +kernel
theorem dX6_readClause_114 : decode cX6_readClause 114 = .ok (.ireturn, 1) := by decide +kernel
theorem oT_readClause : zok yX6_readClause 1 := by decide +kernel
theorem dX6_sees_0 : decode cX6_sees 0 = .ok (.aload_n 0, 1) := by decide +kernel
theorem dX6_sees_1 : decode cX6_sees 1 = .ok (.getfield 24, 3) := by decide +kernel
theorem dX6_sees_4 : decode cX6_sees 4 = .ok (.aload_n 0, 1) := by decide +kernel
theorem dX6_sees_5 : decode cX6_sees 5 = .ok (.getfield 15, 3) := by decide +kernel
theorem dX6_sees_8 : decode cX6_sees 8 = .ok (.if_icmp .ge 20, 3) := by decide +kernel
theorem dX6_sees_11 : decode cX6_sees 11 = .ok (.aload_n 0, 1) := by decide +kernel
theorem dX6_sees_12 : decode cX6_sees 12 = .ok (.getfield 9, 3) := by decide +kernel
theorem dX6_sees_15 : decode cX6_sees 15 = .ok (.aload_n 0, 1) := by decide +kernel
theorem dX6_sees_16 : decode cX6_sees 16 = .ok (.getfield 24, 3) := by decide +kernel
theorem dX6_sees_19 : decode cX6_sees 19 = .ok (.iaload, 1) := by decide +kernel
theorem dX6_sees_20 : decode cX6_sees 20 = .ok (.iload_n 1, 1) := by decide +kernel
theorem dX6_sees_21 : decode cX6_sees 21 = .ok (.if_icmp .ne 7, 3) := by decide +kernel
theorem dX6_sees_24 : decode cX6_sees 24 = .ok (.iconst 1, 1) := by decide +kernel
theorem dX6_sees_25 : decode cX6_sees 25 = .ok (.goto 4, 3) := by decide +kernel
theorem dX6_sees_28 : decode cX6_sees 28 = .ok (.iconst 0, 1) := by decide +kernel
theorem dX6_sees_29 : decode cX6_sees 29 = .ok (.ireturn, 1) := by decide +kernel
theorem oT_sees : zok yX6_sees 1 := by decide +kernel
theorem dX6_passesWord_0 : decode cX6_passesWord 0 = .ok (.iconst 0, 1) := by decide +kernel
theorem dX6_passesWord_1 : decode cX6_passesWord 1 = .ok (.istore_n 2, 1) := by decide +kernel
theorem dX6_passesWord_2 : decode cX6_passesWord 2 = .ok (.iload_n 2, 1) := by decide +kernel
theorem dX6_passesWord_3 : decode cX6_passesWord 3 = .ok (.aload_n 1, 1) := by decide +kernel
theorem dX6_passesWord_4 : decode cX6_passesWord 4 = .ok (.invokevirtual 83, 3) := by decide +kernel
theorem dX6_passesWord_7 : decode cX6_passesWord 7 = .ok (.if_icmp .ge 23, 3) := by decide +kernel
theorem dX6_passesWord_10 : decode cX6_passesWord 10 = .ok (.aload_n 0, 1) := by decide +kernel
theorem dX6_passesWord_11 : decode cX6_passesWord 11 = .ok (.aload_n 1, 1) := by decide +kernel
theorem dX6_passesWord_12 : decode cX6_passesWord 12 = .ok (.iload_n 2, 1) := by decide +kernel
theorem dX6_passesWord_13 : decode cX6_passesWord 13 = .ok (.invokevirtual 86, 3) := by decide +kernel
theorem dX6_passesWord_16 : decode cX6_passesWord 16 = .ok (.invokevirtual 31, 3) := by decide +kernel
theorem dX6_passesWord_19 : decode cX6_passesWord 19 = .ok (.ifCond .ne 5, 3) := by decide +kernel
theorem dX6_passesWord_22 : decode cX6_passesWord 22 = .ok (.iconst 0, 1) := by decide +kernel
theorem dX6_passesWord_23 : decode cX6_passesWord 23 = .ok (.ireturn, 1) := by decide +kernel
theorem dX6_passesWord_24 : decode cX6_passesWord 24 = .ok (.iinc 2 1, 3) := by decide +kernel
theorem dX6_passesWord_27 : decode cX6_passesWord 27 = .ok (.goto (-25), 3) := by decide +kernel
theorem dX6_passesWord_30 : decode cX6_passesWord 30 = .ok (.iconst 1, 1) := by decide +kernel
theorem dX6_passesWord_31 : decode cX6_passesWord 31 = .ok (.ireturn, 1) := by decide +kernel
theorem oT_passesWord : zok yX6_passesWord 1 := by decide +kernel
def yJS_length : MethodName := ⟨"java/lang/String", "length", "()I"⟩
theorem dJ13_length_0 : decode prog_13_method_54_code 0 = .ok (.aload_n 0, 1) := by decide +kernel
theorem dJ13_length_1 : decode prog_13_method_54_code 1 = .ok (.getfield 9, 3) := by decide +kernel
theorem dJ13_length_4 : decode prog_13_method_54_code 4 = .ok (.arraylength, 1) := by decide +kernel
theorem dJ13_length_5 : decode prog_13_method_54_code 5 = .ok (.aload_n 0, 1) := by decide +kernel
theorem dJ13_length_6 : decode prog_13_method_54_code 6 = .ok (.invokevirtual 335, 3) := by decide +kernel
theorem dJ13_length_9 : decode prog_13_method_54_code 9 = .ok (.ishr, 1) := by decide +kernel
theorem dJ13_length_10 : decode prog_13_method_54_code 10 = .ok (.ireturn, 1) := by decide +kernel
theorem oS_length : zok yJS_length 0 := by decide +kernel
def yJS_coder : MethodName := ⟨"java/lang/String", "coder", "()B"⟩
theorem dJ13_coder_0 : decode prog_13_method_152_code 0 = .ok (.getstatic 38, 3) := by decide +kernel
theorem dJ13_coder_3 : decode prog_13_method_152_code 3 = .ok (.ifCond .eq 10, 3) := by decide +kernel
theorem dJ13_coder_6 : decode prog_13_method_152_code 6 = .ok (.aload_n 0, 1) := by decide +kernel
theorem dJ13_coder_7 : decode prog_13_method_152_code 7 = .ok (.getfield 15, 3) := by decide +kernel
theorem dJ13_coder_10 : decode prog_13_method_152_code 10 = .ok (.goto 4, 3) := by decide +kernel
theorem dJ13_coder_13 : decode prog_13_method_152_code 13 = .ok (.iconst 1, 1) := by decide +kernel
theorem dJ13_coder_14 : decode prog_13_method_152_code 14 = .ok (.ireturn, 1) := by decide +kernel
theorem oS_coder : zok yJS_coder 0 := by decide +kernel
def yJS_charAt : MethodName := ⟨"java/lang/String", "charAt", "(I)C"⟩
theorem dJ13_charAt_0 : decode prog_13_method_56_code 0 = .ok (.aload_n 0, 1) := by decide +kernel
theorem dJ13_charAt_1 : decode prog_13_method_56_code 1 = .ok (.invokevirtual 492, 3) := by decide +kernel
theorem dJ13_charAt_4 : decode prog_13_method_56_code 4 = .ok (.ifCond .eq 12, 3) := by decide +kernel
theorem dJ13_charAt_7 : decode prog_13_method_56_code 7 = .ok (.aload_n 0, 1) := by decide +kernel
theorem dJ13_charAt_8 : decode prog_13_method_56_code 8 = .ok (.getfield 9, 3) := by decide +kernel
theorem dJ13_charAt_11 : decode prog_13_method_56_code 11 = .ok (.iload_n 1, 1) := by decide +kernel
theorem dJ13_charAt_12 : decode prog_13_method_56_code 12 = .ok (.invokestatic 495, 3) := by decide +kernel
theorem dJ13_charAt_15 : decode prog_13_method_56_code 15 = .ok (.ireturn, 1) := by decide +kernel
theorem dJ13_charAt_16 : decode prog_13_method_56_code 16 = .ok (.aload_n 0, 1) := by decide +kernel
theorem dJ13_charAt_17 : decode prog_13_method_56_code 17 = .ok (.getfield 9, 3) := by decide +kernel
theorem dJ13_charAt_20 : decode prog_13_method_56_code 20 = .ok (.iload_n 1, 1) := by decide +kernel
theorem dJ13_charAt_21 : decode prog_13_method_56_code 21 = .ok (.invokestatic 498, 3) := by decide +kernel
theorem dJ13_charAt_24 : decode prog_13_method_56_code 24 = .ok (.ireturn, 1) := by decide +kernel
theorem oS_charAt : zok yJS_charAt 1 := by decide +kernel
def yJS_isLatin1 : MethodName := ⟨"java/lang/String", "isLatin1", "()Z"⟩
theorem dJ13_isLatin1_0 : decode prog_13_method_154_code 0 = .ok (.getstatic 38, 3) := by decide +kernel
theorem dJ13_isLatin1_3 : decode prog_13_method_154_code 3 = .ok (.ifCond .eq 14, 3) := by decide +kernel
theorem dJ13_isLatin1_6 : decode prog_13_method_154_code 6 = .ok (.aload_n 0, 1) := by decide +kernel
theorem dJ13_isLatin1_7 : decode prog_13_method_154_code 7 = .ok (.getfield 15, 3) := by decide +kernel
theorem dJ13_isLatin1_10 : decode prog_13_method_154_code 10 = .ok (.ifCond .ne 7, 3) := by decide +kernel
theorem dJ13_isLatin1_13 : decode prog_13_method_154_code 13 = .ok (.iconst 1, 1) := by decide +kernel
theorem dJ13_isLatin1_14 : decode prog_13_method_154_code 14 = .ok (.goto 4, 3) := by decide +kernel
theorem dJ13_isLatin1_17 : decode prog_13_method_154_code 17 = .ok (.iconst 0, 1) := by decide +kernel
theorem dJ13_isLatin1_18 : decode prog_13_method_154_code 18 = .ok (.ireturn, 1) := by decide +kernel
theorem oS_isLatin1 : zok yJS_isLatin1 0 := by decide +kernel
def yJL_charAt : MethodName := ⟨"java/lang/StringLatin1", "charAt", "([BI)C"⟩
theorem dJ14_charAt_0 : decode prog_14_method_2_code 0 = .ok (.iload_n 1, 1) := by decide +kernel
theorem dJ14_charAt_1 : decode prog_14_method_2_code 1 = .ok (.aload_n 0, 1) := by decide +kernel
theorem dJ14_charAt_2 : decode prog_14_method_2_code 2 = .ok (.arraylength, 1) := by decide +kernel
theorem dJ14_charAt_3 : decode prog_14_method_2_code 3 = .ok (.invokestatic 9, 3) := by decide +kernel
theorem dJ14_charAt_6 : decode prog_14_method_2_code 6 = .ok (.aload_n 0, 1) := by decide +kernel
theorem dJ14_charAt_7 : decode prog_14_method_2_code 7 = .ok (.iload_n 1, 1) := by decide +kernel
theorem dJ14_charAt_8 : decode prog_14_method_2_code 8 = .ok (.baload, 1) := by decide +kernel
theorem dJ14_charAt_9 : decode prog_14_method_2_code 9 = .ok (.sipush 255, 3) := by decide +kernel
theorem dJ14_charAt_12 : decode prog_14_method_2_code 12 = .ok (.iand, 1) := by decide +kernel
theorem dJ14_charAt_13 : decode prog_14_method_2_code 13 = .ok (.i2c, 1) := by decide +kernel
theorem dJ14_charAt_14 : decode prog_14_method_2_code 14 = .ok (.ireturn, 1) := by decide +kernel
theorem oL_charAt : zok yJL_charAt 2 := by decide +kernel
def yJS_checkIndex : MethodName := ⟨"java/lang/String", "checkIndex", "(II)V"⟩
theorem dJ13_checkIndex_0 : decode prog_13_method_155_code 0 = .ok (.iload_n 0, 1) := by decide +kernel
theorem dJ13_checkIndex_1 : decode prog_13_method_155_code 1 = .ok (.iload_n 1, 1) := by decide +kernel
theorem dJ13_checkIndex_2 : decode prog_13_method_155_code 2 = .ok (.getstatic 1053, 3) := by decide +kernel
theorem dJ13_checkIndex_5 : decode prog_13_method_155_code 5 = .ok (.invokestatic 1059, 3) := by decide +kernel
theorem dJ13_checkIndex_8 : decode prog_13_method_155_code 8 = .ok (.pop, 1) := by decide +kernel
theorem dJ13_checkIndex_9 : decode prog_13_method_155_code 9 = .ok (.return_, 1) := by decide +kernel
theorem oS_checkIndex : zok yJS_checkIndex 2 := by decide +kernel
def yJC_checkIndex : MethodName := ⟨"jdk/internal/util/Preconditions", "checkIndex", "(IILjava/util/function/BiFunction;)I"⟩
theorem dJ17_checkIndex_0 : decode prog_17_method_11_code 0 = .ok (.iload_n 0, 1) := by decide +kernel
theorem dJ17_checkIndex_1 : decode prog_17_method_11_code 1 = .ok (.ifCond .lt 8, 3) := by decide +kernel
theorem dJ17_checkIndex_4 : decode prog_17_method_11_code 4 = .ok (.iload_n 0, 1) := by decide +kernel
theorem dJ17_checkIndex_5 : decode prog_17_method_11_code 5 = .ok (.iload_n 1, 1) := by decide +kernel
theorem dJ17_checkIndex_6 : decode prog_17_method_11_code 6 = .ok (.if_icmp .lt 10, 3) := by decide +kernel
theorem dJ17_checkIndex_9 : decode prog_17_method_11_code 9 = .ok (.aload_n 2, 1) := by decide +kernel
theorem dJ17_checkIndex_10 : decode prog_17_method_11_code 10 = .ok (.iload_n 0, 1) := by decide +kernel
theorem dJ17_checkIndex_11 : decode prog_17_method_11_code 11 = .ok (.iload_n 1, 1) := by decide +kernel
theorem dJ17_checkIndex_12 : decode prog_17_method_11_code 12 = .ok (.invokestatic 95, 3) := by decide +kernel
theorem dJ17_checkIndex_15 : decode prog_17_method_11_code 15 = .ok (.athrow, 1) := by decide +kernel
theorem dJ17_checkIndex_16 : decode prog_17_method_11_code 16 = .ok (.iload_n 0, 1) := by decide +kernel
theorem dJ17_checkIndex_17 : decode prog_17_method_11_code 17 = .ok (.ireturn, 1) := by decide +kernel
theorem oC_checkIndex : zok yJC_checkIndex 3 := by decide +kernel
theorem dX6_passes_0 : decode cX6_passes 0 = .ok (.aload_n 0, 1) := by decide +kernel
theorem dX6_passes_1 : decode cX6_passes 1 = .ok (.getfield 24, 3) := by decide +kernel
theorem dX6_passes_4 : decode cX6_passes 4 = .ok (.aload_n 0, 1) := by decide +kernel
theorem dX6_passes_5 : decode cX6_passes 5 = .ok (.getfield 15, 3) := by decide +kernel
theorem dX6_passes_8 : decode cX6_passes 8 = .ok (.if_icmp .ge 16, 3) := by decide +kernel
theorem dX6_passes_11 : decode cX6_passes 11 = .ok (.aload_n 0, 1) := by decide +kernel
theorem dX6_passes_12 : decode cX6_passes 12 = .ok (.getfield 9, 3) := by decide +kernel
theorem dX6_passes_15 : decode cX6_passes 15 = .ok (.aload_n 0, 1) := by decide +kernel
theorem dX6_passes_16 : decode cX6_passes 16 = .ok (.getfield 24, 3) := by decide +kernel
theorem dX6_passes_19 : decode cX6_passes 19 = .ok (.iaload, 1) := by decide +kernel
theorem dX6_passes_20 : decode cX6_passes 20 = .ok (.iload_n 1, 1) := by decide +kernel
theorem dX6_passes_21 : decode cX6_passes 21 = .ok (.if_icmp .eq 5, 3) := by decide +kernel
theorem dX6_passes_24 : decode cX6_passes 24 = .ok (.iconst 0, 1) := by decide +kernel
theorem dX6_passes_25 : decode cX6_passes 25 = .ok (.ireturn, 1) := by decide +kernel
theorem dX6_passes_26 : decode cX6_passes 26 = .ok (.aload_n 0, 1) := by decide +kernel
theorem dX6_passes_27 : decode cX6_passes 27 = .ok (.dup, 1) := by decide +kernel
theorem dX6_passes_28 : decode cX6_passes 28 = .ok (.getfield 24, 3) := by decide +kernel
theorem dX6_passes_31 : decode cX6_passes 31 = .ok (.iconst 1, 1) := by decide +kernel
theorem dX6_passes_32 : decode cX6_passes 32 = .ok (.iadd, 1) := by decide +kernel
theorem dX6_passes_33 : decode cX6_passes 33 = .ok (.putfield 24, 3) := by decide +kernel
theorem dX6_passes_36 : decode cX6_passes 36 = .ok (.iconst 1, 1) := by decide +kernel
theorem dX6_passes_37 : decode cX6_passes 37 = .ok (.ireturn, 1) := by decide +kernel
theorem oT_passes : zok yX6_passes 1 := by decide +kernel
theorem dX6_readNumber_0 : decode cX6_readNumber 0 = .ok (.aload_n 0, 1) := by decide +kernel
theorem dX6_readNumber_1 : decode cX6_readNumber 1 = .ok (.invokevirtual 80, 3) := by decide +kernel
theorem dX6_readNumber_4 : decode cX6_readNumber 4 = .ok (.ifCond .ne 5, 3) := by decide +kernel
theorem dX6_readNumber_7 : decode cX6_readNumber 7 = .ok (.iconst 0, 1) := by decide +kernel
theorem dX6_readNumber_8 : decode cX6_readNumber 8 = .ok (.ireturn, 1) := by decide +kernel
theorem dX6_readNumber_9 : decode cX6_readNumber 9 = .ok (.aload_n 0, 1) := by decide +kernel
theorem dX6_readNumber_10 : decode cX6_readNumber 10 = .ok (.aload_n 0, 1) := by decide +kernel
theorem dX6_readNumber_11 : decode cX6_readNumber 11 = .ok (.getfield 9, 3) := by decide +kernel
theorem dX6_readNumber_14 : decode cX6_readNumber 14 = .ok (.aload_n 0, 1) := by decide +kernel
theorem dX6_readNumber_15 : decode cX6_readNumber 15 = .ok (.getfield 24, 3) := by decide +kernel
theorem dX6_readNumber_18 : decode cX6_readNumber 18 = .ok (.iaload, 1) := by decide +kernel
theorem dX6_readNumber_19 : decode cX6_readNumber 19 = .ok (.bipush 48, 2) := by decide +kernel
theorem dX6_readNumber_21 : decode cX6_readNumber 21 = .ok (.isub, 1) := by decide +kernel
theorem dX6_readNumber_22 : decode cX6_readNumber 22 = .ok (.putfield 48, 3) := by decide +kernel
theorem dX6_readNumber_25 : decode cX6_readNumber 25 = .ok (.aload_n 0, 1) := by decide +kernel
theorem dX6_readNumber_26 : decode cX6_readNumber 26 = .ok (.dup, 1) := by decide +kernel
theorem dX6_readNumber_27 : decode cX6_readNumber 27 = .ok (.getfield 24, 3) := by decide +kernel
theorem dX6_readNumber_30 : decode cX6_readNumber 30 = .ok (.iconst 1, 1) := by decide +kernel
theorem dX6_readNumber_31 : decode cX6_readNumber 31 = .ok (.iadd, 1) := by decide +kernel
theorem dX6_readNumber_32 : decode cX6_readNumber 32 = .ok (.putfield 24, 3) := by decide +kernel
theorem dX6_readNumber_35 : decode cX6_readNumber 35 = .ok (.aload_n 0, 1) := by decide +kernel
theorem dX6_readNumber_36 : decode cX6_readNumber 36 = .ok (.invokevirtual 80, 3) := by decide +kernel
theorem dX6_readNumber_39 : decode cX6_readNumber 39 = .ok (.ifCond .eq 37, 3) := by decide +kernel
theorem dX6_readNumber_42 : decode cX6_readNumber 42 = .ok (.aload_n 0, 1) := by decide +kernel
theorem dX6_readNumber_43 : decode cX6_readNumber 43 = .ok (.aload_n 0, 1) := by decide +kernel
theorem dX6_readNumber_44 : decode cX6_readNumber 44 = .ok (.getfield 48, 3) := by decide +kernel
theorem dX6_readNumber_47 : decode cX6_readNumber 47 = .ok (.bipush 10, 2) := by decide +kernel
theorem dX6_readNumber_49 : decode cX6_readNumber 49 = .ok (.imul, 1) := by decide +kernel
theorem dX6_readNumber_50 : decode cX6_readNumber 50 = .ok (.aload_n 0, 1) := by decide +kernel
theorem dX6_readNumber_51 : decode cX6_readNumber 51 = .ok (.getfield 9, 3) := by decide +kernel
theorem dX6_readNumber_54 : decode cX6_readNumber 54 = .ok (.aload_n 0, 1) := by decide +kernel
theorem dX6_readNumber_55 : decode cX6_readNumber 55 = .ok (.getfield 24, 3) := by decide +kernel
theorem dX6_readNumber_58 : decode cX6_readNumber 58 = .ok (.iaload, 1) := by decide +kernel
theorem dX6_readNumber_59 : decode cX6_readNumber 59 = .ok (.iadd, 1) := by decide +kernel
theorem dX6_readNumber_60 : decode cX6_readNumber 60 = .ok (.bipush 48, 2) := by decide +kernel
theorem dX6_readNumber_62 : decode cX6_readNumber 62 = .ok (.isub, 1) := by decide +kernel
theorem dX6_readNumber_63 : decode cX6_readNumber 63 = .ok (.putfield 48, 3) := by decide +kernel
theorem dX6_readNumber_66 : decode cX6_readNumber 66 = .ok (.aload_n 0, 1) := by decide +kernel
theorem dX6_readNumber_67 : decode cX6_readNumber 67 = .ok (.dup, 1) := by decide +kernel
theorem dX6_readNumber_68 : decode cX6_readNumber 68 = .ok (.getfield 24, 3) := by decide +kernel
theorem dX6_readNumber_71 : decode cX6_readNumber 71 = .ok (.iconst 1, 1) := by decide +kernel
theorem dX6_readNumber_72 : decode cX6_readNumber 72 = .ok (.iadd, 1) := by decide +kernel
theorem dX6_readNumber_73 : decode cX6_readNumber 73 = .ok (.putfield 24, 3) := by decide +kernel
theorem dX6_readNumber_76 : decode cX6_readNumber 76 = .ok (.iconst 1, 1) := by decide +kernel
theorem dX6_readNumber_77 : decode cX6_readNumber 77 = .ok (.ireturn, 1) := by decide +kernel
theorem oT_readNumber : zok yX6_readNumber 0 := by decide +kernel
theorem dX6_seesDigit_0 : decode cX6_seesDigit 0 = .ok (.aload_n 0, 1) := by decide +kernel
theorem dX6_seesDigit_1 : decode cX6_seesDigit 1 = .ok (.getfield 24, 3) := by decide +kernel
theorem dX6_seesDigit_4 : decode cX6_seesDigit 4 = .ok (.aload_n 0, 1) := by decide +kernel
theorem dX6_seesDigit_5 : decode cX6_seesDigit 5 = .ok (.getfield 15, 3) := by decide +kernel
theorem dX6_seesDigit_8 : decode cX6_seesDigit 8 = .ok (.if_icmp .ge 35, 3) := by decide +kernel
theorem dX6_seesDigit_11 : decode cX6_seesDigit 11 = .ok (.aload_n 0, 1) := by decide +kernel
theorem dX6_seesDigit_12 : decode cX6_seesDigit 12 = .ok (.getfield 9, 3) := by decide +kernel
theorem dX6_seesDigit_15 : decode cX6_seesDigit 15 = .ok (.aload_n 0, 1) := by decide +kernel
theorem dX6_seesDigit_16 : decode cX6_seesDigit 16 = .ok (.getfield 24, 3) := by decide +kernel
theorem dX6_seesDigit_19 : decode cX6_seesDigit 19 = .ok (.iaload, 1) := by decide +kernel
theorem dX6_seesDigit_20 : decode cX6_seesDigit 20 = .ok (.bipush 48, 2) := by decide +kernel
theorem dX6_seesDigit_22 : decode cX6_seesDigit 22 = .ok (.if_icmp .lt 21, 3) := by decide +kernel
theorem dX6_seesDigit_25 : decode cX6_seesDigit 25 = .ok (.aload_n 0, 1) := by decide +kernel
theorem dX6_seesDigit_26 : decode cX6_seesDigit 26 = .ok (.getfield 9, 3) := by decide +kernel
theorem dX6_seesDigit_29 : decode cX6_seesDigit 29 = .ok (.aload_n 0, 1) := by decide +kernel
theorem dX6_seesDigit_30 : decode cX6_seesDigit 30 = .ok (.getfield 24, 3) := by decide +kernel
theorem dX6_seesDigit_33 : decode cX6_seesDigit 33 = .ok (.iaload, 1) := by decide +kernel
theorem dX6_seesDigit_34 : decode cX6_seesDigit 34 = .ok (.bipush 57, 2) := by decide +kernel
theorem dX6_seesDigit_36 : decode cX6_seesDigit 36 = .ok (.if_icmp .gt 7, 3) := by decide +kernel
theorem dX6_seesDigit_39 : decode cX6_seesDigit 39 = .ok (.iconst 1, 1) := by decide +kernel
theorem dX6_seesDigit_40 : decode cX6_seesDigit 40 = .ok (.goto 4, 3) := by decide +kernel
theorem dX6_seesDigit_43 : decode cX6_seesDigit 43 = .ok (.iconst 0, 1) := by decide +kernel
theorem dX6_seesDigit_44 : decode cX6_seesDigit 44 = .ok (.ireturn, 1) := by decide +kernel
theorem oT_seesDigit : zok yX6_seesDigit 0 := by decide +kernel
theorem dX6_readE_0 : decode cX6_readE 0 = .ok (.iconst 0, 1) := by decide +kernel
theorem dX6_readE_1 : decode cX6_readE 1 = .ok (.istore_n 3, 1) := by decide +kernel
theorem dX6_readE_2 : decode cX6_readE 2 = .ok (.iload_n 3, 1) := by decide +kernel
theorem dX6_readE_3 : decode cX6_readE 3 = .ok (.bipush 100, 2) := by decide +kernel
theorem dX6_readE_5 : decode cX6_readE 5 = .ok (.if_icmp .ge 82, 3) := by decide +kernel
theorem dX6_readE_8 : decode cX6_readE 8 = .ok (.iconst 0, 1) := by decide +kernel
theorem dX6_readE_9 : decode cX6_readE 9 = .ok (.istore 4, 2) := by decide +kernel
theorem dX6_readE_11 : decode cX6_readE 11 = .ok (.iload 4, 2) := by decide +kernel
theorem dX6_readE_13 : decode cX6_readE 13 = .ok (.bipush 100, 2) := by decide +kernel
theorem dX6_readE_15 : decode cX6_readE 15 = .ok (.if_icmp .ge 44, 3) := by decide +kernel
theorem dX6_readE_18 : decode cX6_readE 18 = .ok (.aload_n 0, 1) := by decide +kernel
theorem dX6_readE_19 : decode cX6_readE 19 = .ok (.aload_n 1, 1) := by decide +kernel
theorem dX6_readE_20 : decode cX6_readE 20 = .ok (.iload_n 2, 1) := by decide +kernel
theorem dX6_readE_21 : decode cX6_readE 21 = .ok (.invokevirtual 66, 3) := by decide +kernel
theorem dX6_readE_24 : decode cX6_readE 24 = .ok (.ifCond .ne 5, 3) := by decide +kernel
theorem dX6_readE_27 : decode cX6_readE 27 = .ok (.iconst 0, 1) := by decide +kernel
theorem dX6_readE_28 : decode cX6_readE 28 = .ok (.ireturn, 1) := by decide +kernel
theorem dX6_readE_29 : decode cX6_readE 29 = .ok (.iload 4, 2) := by decide +kernel
theorem dX6_readE_31 : decode cX6_readE 31 = .ok (.ifCond .le 10, 3) := by decide +kernel
theorem dX6_readE_34 : decode cX6_readE 34 = .ok (.aload_n 1, 1) := by decide +kernel
theorem dX6_readE_35 : decode cX6_readE 35 = .ok (.iconst 4, 1) := by decide +kernel
theorem dX6_readE_36 : decode cX6_readE 36 = .ok (.iconst 0, 1) := by decide +kernel
theorem dX6_readE_37 : decode cX6_readE 37 = .ok (.iconst 0, 1) := by decide +kernel
theorem dX6_readE_38 : decode cX6_readE 38 = .ok (.invokevirtual 62, 3) := by decide +kernel
theorem dX6_readE_41 : decode cX6_readE 41 = .ok (.aload_n 0, 1) := by decide +kernel
theorem dX6_readE_42 : decode cX6_readE 42 = .ok (.bipush 38, 2) := by decide +kernel
theorem dX6_readE_44 : decode cX6_readE 44 = .ok (.invokevirtual 31, 3) := by decide +kernel
theorem dX6_readE_47 : decode cX6_readE 47 = .ok (.ifCond .ne 6, 3) := by decide +kernel
theorem dX6_readE_50 : decode cX6_readE 50 = .ok (.goto 9, 3) := by decide +kernel
theorem dX6_readE_53 : decode cX6_readE 53 = .ok (.iinc 4 1, 3) := by decide +kernel
theorem dX6_readE_56 : decode cX6_readE 56 = .ok (.goto (-45), 3) := by decide +kernel
theorem dX6_readE_59 : decode cX6_readE 59 = .ok (.iload_n 3, 1) := by decide +kernel
theorem dX6_readE_60 : decode cX6_readE 60 = .ok (.ifCond .le 10, 3) := by decide +kernel
theorem dX6_readE_63 : decode cX6_readE 63 = .ok (.aload_n 1, 1) := by decide +kernel
theorem dX6_readE_64 : decode cX6_readE 64 = .ok (.iconst 5, 1) := by decide +kernel
theorem dX6_readE_65 : decode cX6_readE 65 = .ok (.iconst 0, 1) := by decide +kernel
theorem dX6_readE_66 : decode cX6_readE 66 = .ok (.iconst 0, 1) := by decide +kernel
theorem dX6_readE_67 : decode cX6_readE 67 = .ok (.invokevirtual 62, 3) := by decide +kernel
theorem dX6_readE_70 : decode cX6_readE 70 = .ok (.aload_n 0, 1) := by decide +kernel
theorem dX6_readE_71 : decode cX6_readE 71 = .ok (.bipush 124, 2) := by decide +kernel
theorem dX6_readE_73 : decode cX6_readE 73 = .ok (.invokevirtual 31, 3) := by decide +kernel
theorem dX6_readE_76 : decode cX6_readE 76 = .ok (.ifCond .ne 5, 3) := by decide +kernel
theorem dX6_readE_79 : decode cX6_readE 79 = .ok (.iconst 1, 1) := by decide +kernel
theorem dX6_readE_80 : decode cX6_readE 80 = .ok (.ireturn, 1) := by decide +kernel
theorem dX6_readE_81 : decode cX6_readE 81 = .ok (.iinc 3 1, 3) := by decide +kernel
theorem dX6_readE_84 : decode cX6_readE 84 = .ok (.goto (-82), 3) := by decide +kernel
theorem dX6_readE_87 : decode cX6_readE 87 = .ok (.iconst 0, 1) := by decide +kernel
theorem dX6_readE_88 : decode cX6_readE 88 = .ok (.ireturn, 1) := by decide +kernel
theorem oT_readE : zok yX6_readE 2 := by decide +kernel
theorem dX6_readF_0 : decode cX6_readF 0 = .ok (.iload_n 2, 1) := by decide +kernel
theorem dX6_readF_1 : decode cX6_readF 1 = .ok (.iconst 4, 1) := by decide +kernel
theorem dX6_readF_2 : decode cX6_readF 2 = .ok (.if_icmp .ge 34, 3) := by decide +kernel
theorem dX6_readF_5 : decode cX6_readF 5 = .ok (.aload_n 0, 1) := by decide +kernel
theorem dX6_readF_6 : decode cX6_readF 6 = .ok (.bipush 33, 2) := by decide +kernel
theorem dX6_readF_8 : decode cX6_readF 8 = .ok (.invokevirtual 31, 3) := by decide +kernel
theorem dX6_readF_11 : decode cX6_readF 11 = .ok (.ifCond .eq 25, 3) := by decide +kernel
theorem dX6_readF_14 : decode cX6_readF 14 = .ok (.aload_n 0, 1) := by decide +kernel
theorem dX6_readF_15 : decode cX6_readF 15 = .ok (.aload_n 1, 1) := by decide +kernel
theorem dX6_readF_16 : decode cX6_readF 16 = .ok (.iload_n 2, 1) := by decide +kernel
theorem dX6_readF_17 : decode cX6_readF 17 = .ok (.iconst 1, 1) := by decide +kernel
theorem dX6_readF_18 : decode cX6_readF 18 = .ok (.iadd, 1) := by decide +kernel
theorem dX6_readF_19 : decode cX6_readF 19 = .ok (.invokevirtual 66, 3) := by decide +kernel
theorem dX6_readF_22 : decode cX6_readF 22 = .ok (.ifCond .ne 5, 3) := by decide +kernel
theorem dX6_readF_25 : decode cX6_readF 25 = .ok (.iconst 0, 1) := by decide +kernel
theorem dX6_readF_26 : decode cX6_readF 26 = .ok (.ireturn, 1) := by decide +kernel
theorem dX6_readF_27 : decode cX6_readF 27 = .ok (.aload_n 1, 1) := by decide +kernel
theorem dX6_readF_28 : decode cX6_readF 28 = .ok (.iconst 3, 1) := by decide +kernel
theorem dX6_readF_29 : decode cX6_readF 29 = .ok (.iconst 0, 1) := by decide +kernel
theorem dX6_readF_30 : decode cX6_readF 30 = .ok (.iconst 0, 1) := by decide +kernel
theorem dX6_readF_31 : decode cX6_readF 31 = .ok (.invokevirtual 62, 3) := by decide +kernel
theorem dX6_readF_34 : decode cX6_readF 34 = .ok (.iconst 1, 1) := by decide +kernel
theorem dX6_readF_35 : decode cX6_readF 35 = .ok (.ireturn, 1) := by decide +kernel
theorem dX6_readF_36 : decode cX6_readF 36 = .ok (.iload_n 2, 1) := by decide +kernel
theorem dX6_readF_37 : decode cX6_readF 37 = .ok (.iconst 4, 1) := by decide +kernel
theorem dX6_readF_38 : decode cX6_readF 38 = .ok (.if_icmp .ge 38, 3) := by decide +kernel
theorem dX6_readF_41 : decode cX6_readF 41 = .ok (.aload_n 0, 1) := by decide +kernel
theorem dX6_readF_42 : decode cX6_readF 42 = .ok (.bipush 40, 2) := by decide +kernel
theorem dX6_readF_44 : decode cX6_readF 44 = .ok (.invokevirtual 31, 3) := by decide +kernel
theorem dX6_readF_47 : decode cX6_readF 47 = .ok (.ifCond .eq 29, 3) := by decide +kernel
theorem dX6_readF_50 : decode cX6_readF 50 = .ok (.aload_n 0, 1) := by decide +kernel
theorem dX6_readF_51 : decode cX6_readF 51 = .ok (.aload_n 1, 1) := by decide +kernel
theorem dX6_readF_52 : decode cX6_readF 52 = .ok (.iload_n 2, 1) := by decide +kernel
theorem dX6_readF_53 : decode cX6_readF 53 = .ok (.iconst 1, 1) := by decide +kernel
theorem dX6_readF_54 : decode cX6_readF 54 = .ok (.iadd, 1) := by decide +kernel
theorem dX6_readF_55 : decode cX6_readF 55 = .ok (.invokevirtual 58, 3) := by decide +kernel
theorem dX6_readF_58 : decode cX6_readF 58 = .ok (.ifCond .eq 16, 3) := by decide +kernel
theorem dX6_readF_61 : decode cX6_readF 61 = .ok (.aload_n 0, 1) := by decide +kernel
theorem dX6_readF_62 : decode cX6_readF 62 = .ok (.bipush 41, 2) := by decide +kernel
theorem dX6_readF_64 : decode cX6_readF 64 = .ok (.invokevirtual 31, 3) := by decide +kernel
theorem dX6_readF_67 : decode cX6_readF 67 = .ok (.ifCond .eq 7, 3) := by decide +kernel
theorem dX6_readF_70 : decode cX6_readF 70 = .ok (.iconst 1, 1) := by decide +kernel
theorem dX6_readF_71 : decode cX6_readF 71 = .ok (.goto 4, 3) := by decide +kernel
theorem dX6_readF_74 : decode cX6_readF 74 = .ok (.iconst 0, 1) := by decide +kernel
theorem dX6_readF_75 : decode cX6_readF 75 = .ok (.ireturn, 1) := by decide +kernel
theorem dX6_readF_76 : decode cX6_readF 76 = .ok (.aload_n 0, 1) := by decide +kernel
theorem dX6_readF_77 : decode cX6_readF 77 = .ok (.aload_n 1, 1) := by decide +kernel
theorem dX6_readF_78 : decode cX6_readF 78 = .ok (.invokevirtual 69, 3) := by decide +kernel
theorem dX6_readF_81 : decode cX6_readF 81 = .ok (.ireturn, 1) := by decide +kernel
theorem oT_readF : zok yX6_readF 2 := by decide +kernel
theorem dX1_append_0 : decode cX1_append 0 = .ok (.aload_n 0, 1) := by decide +kernel
theorem dX1_append_1 : decode cX1_append 1 = .ok (.getfield 22, 3) := by decide +kernel
theorem dX1_append_4 : decode cX1_append 4 = .ok (.bipush 100, 2) := by decide +kernel
theorem dX1_append_6 : decode cX1_append 6 = .ok (.if_icmp .ge 33, 3) := by decide +kernel
theorem dX1_append_9 : decode cX1_append 9 = .ok (.aload_n 0, 1) := by decide +kernel
theorem dX1_append_10 : decode cX1_append 10 = .ok (.getfield 9, 3) := by decide +kernel
theorem dX1_append_13 : decode cX1_append 13 = .ok (.aload_n 0, 1) := by decide +kernel
theorem dX1_append_14 : decode cX1_append 14 = .ok (.getfield 22, 3) := by decide +kernel
theorem dX1_append_17 : decode cX1_append 17 = .ok (.iload_n 1, 1) := by decide +kernel
theorem dX1_append_18 : decode cX1_append 18 = .ok (.bipush 16, 2) := by decide +kernel
theorem dX1_append_20 : decode cX1_append 20 = .ok (.ishl, 1) := by decide +kernel
theorem dX1_append_21 : decode cX1_append 21 = .ok (.iload_n 2, 1) := by decide +kernel
theorem dX1_append_22 : decode cX1_append 22 = .ok (.bipush 8, 2) := by decide +kernel
theorem dX1_append_24 : decode cX1_append 24 = .ok (.ishl, 1) := by decide +kernel
theorem dX1_append_25 : decode cX1_append 25 = .ok (.ior, 1) := by decide +kernel
theorem dX1_append_26 : decode cX1_append 26 = .ok (.iload_n 3, 1) := by decide +kernel
theorem dX1_append_27 : decode cX1_append 27 = .ok (.ior, 1) := by decide +kernel
theorem dX1_append_28 : decode cX1_append 28 = .ok (.iastore, 1) := by decide +kernel
theorem dX1_append_29 : decode cX1_append 29 = .ok (.aload_n 0, 1) := by decide +kernel
theorem dX1_append_30 : decode cX1_append 30 = .ok (.dup, 1) := by decide +kernel
theorem dX1_append_31 : decode cX1_append 31 = .ok (.getfield 22, 3) := by decide +kernel
theorem dX1_append_34 : decode cX1_append 34 = .ok (.iconst 1, 1) := by decide +kernel
theorem dX1_append_35 : decode cX1_append 35 = .ok (.iadd, 1) := by decide +kernel
theorem dX1_append_36 : decode cX1_append 36 = .ok (.putfield 22, 3) := by decide +kernel
theorem dX1_append_39 : decode cX1_append 39 = .ok (.return_, 1) := by decide +kernel
theorem oE_append : zok yX1_append 3 := by decide +kernel
